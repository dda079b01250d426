section
-- ===== PART A: goes FIRST, ahead of the names: the tables' words, and 'selects' of the private methods out of them =====
/-- a private method of a class that the tables say can be made, by its rows of tables_1 -/
def lw_okq (q : MethodName × Nat) : Prop := (q.1.cls ≠ "java/lang/invoke/MethodHandle" ∧ q.1.cls ≠ "java/lang/invoke/VarHandle") ∧ Cond.instantiable q.1.cls q.2 ∈ tables_1 ∧ Cond.privateMethod q.1 ∈ tables_1 ∧ Cond.instanceMethod q.1 ∈ tables_1
theorem lw_p0 : lw_okq (⟨"TubHire", "settled", "(I)I"⟩, 8) := ⟨⟨by decide +kernel, by decide +kernel⟩, List.mem_of_getElem? (i := 37) (by decide +kernel), List.mem_of_getElem? (i := 370) (by decide +kernel), List.mem_of_getElem? (i := 371) (by decide +kernel)⟩
theorem lw_p1 : lw_okq (⟨"java/lang/Throwable", "fillInStackTrace", "(I)Ljava/lang/Throwable;"⟩, 6) := ⟨⟨by decide +kernel, by decide +kernel⟩, List.mem_of_getElem? (i := 417) (by decide +kernel), List.mem_of_getElem? (i := 415) (by decide +kernel), List.mem_of_getElem? (i := 416) (by decide +kernel)⟩
theorem lw_p2 : lw_okq (⟨"TubHire", "hoursUntilBath", "(I)I"⟩, 8) := ⟨⟨by decide +kernel, by decide +kernel⟩, List.mem_of_getElem? (i := 37) (by decide +kernel), List.mem_of_getElem? (i := 869) (by decide +kernel), List.mem_of_getElem? (i := 870) (by decide +kernel)⟩
theorem lw_p3 : lw_okq (⟨"TubHire", "appendTub", "(I)V"⟩, 8) := ⟨⟨by decide +kernel, by decide +kernel⟩, List.mem_of_getElem? (i := 37) (by decide +kernel), List.mem_of_getElem? (i := 1157) (by decide +kernel), List.mem_of_getElem? (i := 1158) (by decide +kernel)⟩
theorem lw_p4 : lw_okq (⟨"TubHire", "carriedOut", "()I"⟩, 8) := ⟨⟨by decide +kernel, by decide +kernel⟩, List.mem_of_getElem? (i := 37) (by decide +kernel), List.mem_of_getElem? (i := 1323) (by decide +kernel), List.mem_of_getElem? (i := 1324) (by decide +kernel)⟩
theorem lw_p5 : lw_okq (⟨"TubHire", "outcomeOf", "(LTubHire$Command;II)I"⟩, 8) := ⟨⟨by decide +kernel, by decide +kernel⟩, List.mem_of_getElem? (i := 37) (by decide +kernel), List.mem_of_getElem? (i := 1328) (by decide +kernel), List.mem_of_getElem? (i := 1329) (by decide +kernel)⟩
theorem lw_p6 : lw_okq (⟨"TubHireModel", "keep", "()V"⟩, 21) := ⟨⟨by decide +kernel, by decide +kernel⟩, List.mem_of_getElem? (i := 1384) (by decide +kernel), List.mem_of_getElem? (i := 1477) (by decide +kernel), List.mem_of_getElem? (i := 1478) (by decide +kernel)⟩
theorem lw_p7 : lw_okq (⟨"TubHireModel", "fails", "(I)I"⟩, 21) := ⟨⟨by decide +kernel, by decide +kernel⟩, List.mem_of_getElem? (i := 1384) (by decide +kernel), List.mem_of_getElem? (i := 1485) (by decide +kernel), List.mem_of_getElem? (i := 1486) (by decide +kernel)⟩
theorem lw_p8 : lw_okq (⟨"TubHireModel", "refuse", "(III)I"⟩, 21) := ⟨⟨by decide +kernel, by decide +kernel⟩, List.mem_of_getElem? (i := 1384) (by decide +kernel), List.mem_of_getElem? (i := 1489) (by decide +kernel), List.mem_of_getElem? (i := 1490) (by decide +kernel)⟩
theorem lw_p9 : lw_okq (⟨"TubHireModel", "setTub", "(III)V"⟩, 21) := ⟨⟨by decide +kernel, by decide +kernel⟩, List.mem_of_getElem? (i := 1384) (by decide +kernel), List.mem_of_getElem? (i := 1493) (by decide +kernel), List.mem_of_getElem? (i := 1494) (by decide +kernel)⟩
theorem lw_p10 : lw_okq (⟨"TubHireModel", "ends", "(I)I"⟩, 21) := ⟨⟨by decide +kernel, by decide +kernel⟩, List.mem_of_getElem? (i := 1384) (by decide +kernel), List.mem_of_getElem? (i := 1497) (by decide +kernel), List.mem_of_getElem? (i := 1498) (by decide +kernel)⟩
theorem lw_p11 : lw_okq (⟨"TubHireModel", "isTub", "(I)Z"⟩, 21) := ⟨⟨by decide +kernel, by decide +kernel⟩, List.mem_of_getElem? (i := 1384) (by decide +kernel), List.mem_of_getElem? (i := 1505) (by decide +kernel), List.mem_of_getElem? (i := 1506) (by decide +kernel)⟩
theorem lw_p12 : lw_okq (⟨"TubHireModel", "tub1", "(II)I"⟩, 21) := ⟨⟨by decide +kernel, by decide +kernel⟩, List.mem_of_getElem? (i := 1384) (by decide +kernel), List.mem_of_getElem? (i := 1509) (by decide +kernel), List.mem_of_getElem? (i := 1510) (by decide +kernel)⟩
theorem lw_p13 : lw_okq (⟨"TubHireModel", "isSeam", "(II)Z"⟩, 21) := ⟨⟨by decide +kernel, by decide +kernel⟩, List.mem_of_getElem? (i := 1384) (by decide +kernel), List.mem_of_getElem? (i := 1517) (by decide +kernel), List.mem_of_getElem? (i := 1518) (by decide +kernel)⟩
theorem lw_p14 : lw_okq (⟨"TubHireModel", "firstTorn", "(II)I"⟩, 21) := ⟨⟨by decide +kernel, by decide +kernel⟩, List.mem_of_getElem? (i := 1384) (by decide +kernel), List.mem_of_getElem? (i := 1521) (by decide +kernel), List.mem_of_getElem? (i := 1522) (by decide +kernel)⟩
theorem lw_p15 : lw_okq (⟨"TubHireModel", "isTorn", "(II)Z"⟩, 21) := ⟨⟨by decide +kernel, by decide +kernel⟩, List.mem_of_getElem? (i := 1384) (by decide +kernel), List.mem_of_getElem? (i := 1525) (by decide +kernel), List.mem_of_getElem? (i := 1526) (by decide +kernel)⟩
def lw_privs_1 : List (MethodName × Nat) := [(⟨"TubHire", "settled", "(I)I"⟩, 8), (⟨"java/lang/Throwable", "fillInStackTrace", "(I)Ljava/lang/Throwable;"⟩, 6), (⟨"TubHire", "hoursUntilBath", "(I)I"⟩, 8), (⟨"TubHire", "appendTub", "(I)V"⟩, 8), (⟨"TubHire", "carriedOut", "()I"⟩, 8), (⟨"TubHire", "outcomeOf", "(LTubHire$Command;II)I"⟩, 8), (⟨"TubHireModel", "keep", "()V"⟩, 21), (⟨"TubHireModel", "fails", "(I)I"⟩, 21), (⟨"TubHireModel", "refuse", "(III)I"⟩, 21), (⟨"TubHireModel", "setTub", "(III)V"⟩, 21), (⟨"TubHireModel", "ends", "(I)I"⟩, 21), (⟨"TubHireModel", "isTub", "(I)Z"⟩, 21), (⟨"TubHireModel", "tub1", "(II)I"⟩, 21), (⟨"TubHireModel", "isSeam", "(II)Z"⟩, 21), (⟨"TubHireModel", "firstTorn", "(II)I"⟩, 21), (⟨"TubHireModel", "isTorn", "(II)Z"⟩, 21)]
theorem lw_r1 : ∀ q ∈ lw_privs_1, lw_okq q := List.forall_mem_cons.mpr ⟨lw_p0, List.forall_mem_cons.mpr ⟨lw_p1, List.forall_mem_cons.mpr ⟨lw_p2, List.forall_mem_cons.mpr ⟨lw_p3, List.forall_mem_cons.mpr ⟨lw_p4, List.forall_mem_cons.mpr ⟨lw_p5, List.forall_mem_cons.mpr ⟨lw_p6, List.forall_mem_cons.mpr ⟨lw_p7, List.forall_mem_cons.mpr ⟨lw_p8, List.forall_mem_cons.mpr ⟨lw_p9, List.forall_mem_cons.mpr ⟨lw_p10, List.forall_mem_cons.mpr ⟨lw_p11, List.forall_mem_cons.mpr ⟨lw_p12, List.forall_mem_cons.mpr ⟨lw_p13, List.forall_mem_cons.mpr ⟨lw_p14, List.forall_mem_cons.mpr ⟨lw_p15, fun _ h => absurd h List.not_mem_nil⟩⟩⟩⟩⟩⟩⟩⟩⟩⟩⟩⟩⟩⟩⟩⟩
theorem lw_p16 : lw_okq (⟨"TubHireModel", "tornMany", "(I)I"⟩, 21) := ⟨⟨by decide +kernel, by decide +kernel⟩, List.mem_of_getElem? (i := 1384) (by decide +kernel), List.mem_of_getElem? (i := 1533) (by decide +kernel), List.mem_of_getElem? (i := 1534) (by decide +kernel)⟩
theorem lw_p17 : lw_okq (⟨"TubHireModel", "doMend", "(II)I"⟩, 21) := ⟨⟨by decide +kernel, by decide +kernel⟩, List.mem_of_getElem? (i := 1384) (by decide +kernel), List.mem_of_getElem? (i := 1541) (by decide +kernel), List.mem_of_getElem? (i := 1542) (by decide +kernel)⟩
theorem lw_p18 : lw_okq (⟨"TubHireModel", "doOut", "(II)I"⟩, 21) := ⟨⟨by decide +kernel, by decide +kernel⟩, List.mem_of_getElem? (i := 1384) (by decide +kernel), List.mem_of_getElem? (i := 1553) (by decide +kernel), List.mem_of_getElem? (i := 1554) (by decide +kernel)⟩
theorem lw_p19 : lw_okq (⟨"TubHireModel", "isTent", "(I)Z"⟩, 21) := ⟨⟨by decide +kernel, by decide +kernel⟩, List.mem_of_getElem? (i := 1384) (by decide +kernel), List.mem_of_getElem? (i := 1557) (by decide +kernel), List.mem_of_getElem? (i := 1558) (by decide +kernel)⟩
theorem lw_p20 : lw_okq (⟨"TubHireModel", "tent1", "(II)I"⟩, 21) := ⟨⟨by decide +kernel, by decide +kernel⟩, List.mem_of_getElem? (i := 1384) (by decide +kernel), List.mem_of_getElem? (i := 1561) (by decide +kernel), List.mem_of_getElem? (i := 1562) (by decide +kernel)⟩
theorem lw_p21 : lw_okq (⟨"TubHireModel", "setTent", "(III)V"⟩, 21) := ⟨⟨by decide +kernel, by decide +kernel⟩, List.mem_of_getElem? (i := 1384) (by decide +kernel), List.mem_of_getElem? (i := 1565) (by decide +kernel), List.mem_of_getElem? (i := 1566) (by decide +kernel)⟩
theorem lw_p22 : lw_okq (⟨"TubHireModel", "doBack", "(I)I"⟩, 21) := ⟨⟨by decide +kernel, by decide +kernel⟩, List.mem_of_getElem? (i := 1384) (by decide +kernel), List.mem_of_getElem? (i := 1573) (by decide +kernel), List.mem_of_getElem? (i := 1574) (by decide +kernel)⟩
theorem lw_p23 : lw_okq (⟨"TubHireModel", "doJoin", "(I)I"⟩, 21) := ⟨⟨by decide +kernel, by decide +kernel⟩, List.mem_of_getElem? (i := 1384) (by decide +kernel), List.mem_of_getElem? (i := 1593) (by decide +kernel), List.mem_of_getElem? (i := 1594) (by decide +kernel)⟩
theorem lw_p24 : lw_okq (⟨"TubHireModel", "isHeater", "(I)Z"⟩, 21) := ⟨⟨by decide +kernel, by decide +kernel⟩, List.mem_of_getElem? (i := 1384) (by decide +kernel), List.mem_of_getElem? (i := 1605) (by decide +kernel), List.mem_of_getElem? (i := 1606) (by decide +kernel)⟩
theorem lw_p25 : lw_okq (⟨"TubHireModel", "gasOf", "(I)I"⟩, 21) := ⟨⟨by decide +kernel, by decide +kernel⟩, List.mem_of_getElem? (i := 1384) (by decide +kernel), List.mem_of_getElem? (i := 1609) (by decide +kernel), List.mem_of_getElem? (i := 1610) (by decide +kernel)⟩
theorem lw_p26 : lw_okq (⟨"TubHireModel", "tentOfHeater", "(I)I"⟩, 21) := ⟨⟨by decide +kernel, by decide +kernel⟩, List.mem_of_getElem? (i := 1384) (by decide +kernel), List.mem_of_getElem? (i := 1613) (by decide +kernel), List.mem_of_getElem? (i := 1614) (by decide +kernel)⟩
theorem lw_p27 : lw_okq (⟨"TubHireModel", "doHeat", "(II)I"⟩, 21) := ⟨⟨by decide +kernel, by decide +kernel⟩, List.mem_of_getElem? (i := 1384) (by decide +kernel), List.mem_of_getElem? (i := 1621) (by decide +kernel), List.mem_of_getElem? (i := 1622) (by decide +kernel)⟩
theorem lw_p28 : lw_okq (⟨"TubHireModel", "doCold", "(I)I"⟩, 21) := ⟨⟨by decide +kernel, by decide +kernel⟩, List.mem_of_getElem? (i := 1384) (by decide +kernel), List.mem_of_getElem? (i := 1629) (by decide +kernel), List.mem_of_getElem? (i := 1630) (by decide +kernel)⟩
theorem lw_p29 : lw_okq (⟨"TubHireModel", "doWash", "(I)I"⟩, 21) := ⟨⟨by decide +kernel, by decide +kernel⟩, List.mem_of_getElem? (i := 1384) (by decide +kernel), List.mem_of_getElem? (i := 1642) (by decide +kernel), List.mem_of_getElem? (i := 1643) (by decide +kernel)⟩
theorem lw_p30 : lw_okq (⟨"TubHireModel", "doSoap", "(I)I"⟩, 21) := ⟨⟨by decide +kernel, by decide +kernel⟩, List.mem_of_getElem? (i := 1384) (by decide +kernel), List.mem_of_getElem? (i := 1650) (by decide +kernel), List.mem_of_getElem? (i := 1651) (by decide +kernel)⟩
theorem lw_p31 : lw_okq (⟨"TubHireModel", "doPass", "(I)I"⟩, 21) := ⟨⟨by decide +kernel, by decide +kernel⟩, List.mem_of_getElem? (i := 1384) (by decide +kernel), List.mem_of_getElem? (i := 1658) (by decide +kernel), List.mem_of_getElem? (i := 1659) (by decide +kernel)⟩
def lw_privs_2 : List (MethodName × Nat) := [(⟨"TubHireModel", "tornMany", "(I)I"⟩, 21), (⟨"TubHireModel", "doMend", "(II)I"⟩, 21), (⟨"TubHireModel", "doOut", "(II)I"⟩, 21), (⟨"TubHireModel", "isTent", "(I)Z"⟩, 21), (⟨"TubHireModel", "tent1", "(II)I"⟩, 21), (⟨"TubHireModel", "setTent", "(III)V"⟩, 21), (⟨"TubHireModel", "doBack", "(I)I"⟩, 21), (⟨"TubHireModel", "doJoin", "(I)I"⟩, 21), (⟨"TubHireModel", "isHeater", "(I)Z"⟩, 21), (⟨"TubHireModel", "gasOf", "(I)I"⟩, 21), (⟨"TubHireModel", "tentOfHeater", "(I)I"⟩, 21), (⟨"TubHireModel", "doHeat", "(II)I"⟩, 21), (⟨"TubHireModel", "doCold", "(I)I"⟩, 21), (⟨"TubHireModel", "doWash", "(I)I"⟩, 21), (⟨"TubHireModel", "doSoap", "(I)I"⟩, 21), (⟨"TubHireModel", "doPass", "(I)I"⟩, 21)]
theorem lw_r2 : ∀ q ∈ lw_privs_2, lw_okq q := List.forall_mem_cons.mpr ⟨lw_p16, List.forall_mem_cons.mpr ⟨lw_p17, List.forall_mem_cons.mpr ⟨lw_p18, List.forall_mem_cons.mpr ⟨lw_p19, List.forall_mem_cons.mpr ⟨lw_p20, List.forall_mem_cons.mpr ⟨lw_p21, List.forall_mem_cons.mpr ⟨lw_p22, List.forall_mem_cons.mpr ⟨lw_p23, List.forall_mem_cons.mpr ⟨lw_p24, List.forall_mem_cons.mpr ⟨lw_p25, List.forall_mem_cons.mpr ⟨lw_p26, List.forall_mem_cons.mpr ⟨lw_p27, List.forall_mem_cons.mpr ⟨lw_p28, List.forall_mem_cons.mpr ⟨lw_p29, List.forall_mem_cons.mpr ⟨lw_p30, List.forall_mem_cons.mpr ⟨lw_p31, fun _ h => absurd h List.not_mem_nil⟩⟩⟩⟩⟩⟩⟩⟩⟩⟩⟩⟩⟩⟩⟩⟩
theorem lw_p32 : lw_okq (⟨"TubHireModel", "goHour", "()I"⟩, 21) := ⟨⟨by decide +kernel, by decide +kernel⟩, List.mem_of_getElem? (i := 1384) (by decide +kernel), List.mem_of_getElem? (i := 1662) (by decide +kernel), List.mem_of_getElem? (i := 1663) (by decide +kernel)⟩
theorem lw_p33 : lw_okq (⟨"TubHireModel", "goTent", "(II)I"⟩, 21) := ⟨⟨by decide +kernel, by decide +kernel⟩, List.mem_of_getElem? (i := 1384) (by decide +kernel), List.mem_of_getElem? (i := 1666) (by decide +kernel), List.mem_of_getElem? (i := 1667) (by decide +kernel)⟩
theorem lw_p34 : lw_okq (⟨"TubHireModel", "bathes", "(II)V"⟩, 21) := ⟨⟨by decide +kernel, by decide +kernel⟩, List.mem_of_getElem? (i := 1384) (by decide +kernel), List.mem_of_getElem? (i := 1671) (by decide +kernel), List.mem_of_getElem? (i := 1672) (by decide +kernel)⟩
theorem lw_p35 : lw_okq (⟨"TubHireModel", "waits", "(I)Z"⟩, 21) := ⟨⟨by decide +kernel, by decide +kernel⟩, List.mem_of_getElem? (i := 1384) (by decide +kernel), List.mem_of_getElem? (i := 1688) (by decide +kernel), List.mem_of_getElem? (i := 1689) (by decide +kernel)⟩
theorem lw_p36 : lw_okq (⟨"TubHireModel", "saysNumber", "(I)V"⟩, 21) := ⟨⟨by decide +kernel, by decide +kernel⟩, List.mem_of_getElem? (i := 1384) (by decide +kernel), List.mem_of_getElem? (i := 1696) (by decide +kernel), List.mem_of_getElem? (i := 1697) (by decide +kernel)⟩
theorem lw_p37 : lw_okq (⟨"TubHireModel", "says", "(Ljava/lang/String;)V"⟩, 21) := ⟨⟨by decide +kernel, by decide +kernel⟩, List.mem_of_getElem? (i := 1384) (by decide +kernel), List.mem_of_getElem? (i := 1701) (by decide +kernel), List.mem_of_getElem? (i := 1702) (by decide +kernel)⟩
theorem lw_p38 : lw_okq (⟨"TubHireModel", "saysTub", "(I)V"⟩, 21) := ⟨⟨by decide +kernel, by decide +kernel⟩, List.mem_of_getElem? (i := 1384) (by decide +kernel), List.mem_of_getElem? (i := 1708) (by decide +kernel), List.mem_of_getElem? (i := 1709) (by decide +kernel)⟩
theorem lw_p39 : lw_okq (⟨"TubHireModel", "overTubs", "(I)I"⟩, 21) := ⟨⟨by decide +kernel, by decide +kernel⟩, List.mem_of_getElem? (i := 1384) (by decide +kernel), List.mem_of_getElem? (i := 1726) (by decide +kernel), List.mem_of_getElem? (i := 1727) (by decide +kernel)⟩
theorem lw_p40 : lw_okq (⟨"TubHireModel", "allGas", "()I"⟩, 21) := ⟨⟨by decide +kernel, by decide +kernel⟩, List.mem_of_getElem? (i := 1384) (by decide +kernel), List.mem_of_getElem? (i := 1730) (by decide +kernel), List.mem_of_getElem? (i := 1731) (by decide +kernel)⟩
theorem lw_p41 : lw_okq (⟨"TubHireModel", "allWait", "()I"⟩, 21) := ⟨⟨by decide +kernel, by decide +kernel⟩, List.mem_of_getElem? (i := 1384) (by decide +kernel), List.mem_of_getElem? (i := 1734) (by decide +kernel), List.mem_of_getElem? (i := 1735) (by decide +kernel)⟩
theorem lw_p42 : lw_okq (⟨"TubHireModel", "readCommand", "()V"⟩, 21) := ⟨⟨by decide +kernel, by decide +kernel⟩, List.mem_of_getElem? (i := 1384) (by decide +kernel), List.mem_of_getElem? (i := 1758) (by decide +kernel), List.mem_of_getElem? (i := 1759) (by decide +kernel)⟩
theorem lw_p43 : lw_okq (⟨"TubHireModel", "alike", "(Ljava/lang/String;)I"⟩, 21) := ⟨⟨by decide +kernel, by decide +kernel⟩, List.mem_of_getElem? (i := 1384) (by decide +kernel), List.mem_of_getElem? (i := 1762) (by decide +kernel), List.mem_of_getElem? (i := 1763) (by decide +kernel)⟩
theorem lw_p44 : lw_okq (⟨"TubHireModel", "figures", "()I"⟩, 21) := ⟨⟨by decide +kernel, by decide +kernel⟩, List.mem_of_getElem? (i := 1384) (by decide +kernel), List.mem_of_getElem? (i := 1766) (by decide +kernel), List.mem_of_getElem? (i := 1767) (by decide +kernel)⟩
theorem lw_p45 : lw_okq (⟨"TubHireModel", "digit", "()I"⟩, 21) := ⟨⟨by decide +kernel, by decide +kernel⟩, List.mem_of_getElem? (i := 1384) (by decide +kernel), List.mem_of_getElem? (i := 1770) (by decide +kernel), List.mem_of_getElem? (i := 1771) (by decide +kernel)⟩
theorem lw_p46 : lw_okq (⟨"TubHireModel", "sign", "(CC)I"⟩, 21) := ⟨⟨by decide +kernel, by decide +kernel⟩, List.mem_of_getElem? (i := 1384) (by decide +kernel), List.mem_of_getElem? (i := 1774) (by decide +kernel), List.mem_of_getElem? (i := 1775) (by decide +kernel)⟩
theorem lw_p47 : lw_okq (⟨"TubHireModel", "isHere", "(CC)Z"⟩, 21) := ⟨⟨by decide +kernel, by decide +kernel⟩, List.mem_of_getElem? (i := 1384) (by decide +kernel), List.mem_of_getElem? (i := 1778) (by decide +kernel), List.mem_of_getElem? (i := 1779) (by decide +kernel)⟩
def lw_privs_3 : List (MethodName × Nat) := [(⟨"TubHireModel", "goHour", "()I"⟩, 21), (⟨"TubHireModel", "goTent", "(II)I"⟩, 21), (⟨"TubHireModel", "bathes", "(II)V"⟩, 21), (⟨"TubHireModel", "waits", "(I)Z"⟩, 21), (⟨"TubHireModel", "saysNumber", "(I)V"⟩, 21), (⟨"TubHireModel", "says", "(Ljava/lang/String;)V"⟩, 21), (⟨"TubHireModel", "saysTub", "(I)V"⟩, 21), (⟨"TubHireModel", "overTubs", "(I)I"⟩, 21), (⟨"TubHireModel", "allGas", "()I"⟩, 21), (⟨"TubHireModel", "allWait", "()I"⟩, 21), (⟨"TubHireModel", "readCommand", "()V"⟩, 21), (⟨"TubHireModel", "alike", "(Ljava/lang/String;)I"⟩, 21), (⟨"TubHireModel", "figures", "()I"⟩, 21), (⟨"TubHireModel", "digit", "()I"⟩, 21), (⟨"TubHireModel", "sign", "(CC)I"⟩, 21), (⟨"TubHireModel", "isHere", "(CC)Z"⟩, 21)]
theorem lw_r3 : ∀ q ∈ lw_privs_3, lw_okq q := List.forall_mem_cons.mpr ⟨lw_p32, List.forall_mem_cons.mpr ⟨lw_p33, List.forall_mem_cons.mpr ⟨lw_p34, List.forall_mem_cons.mpr ⟨lw_p35, List.forall_mem_cons.mpr ⟨lw_p36, List.forall_mem_cons.mpr ⟨lw_p37, List.forall_mem_cons.mpr ⟨lw_p38, List.forall_mem_cons.mpr ⟨lw_p39, List.forall_mem_cons.mpr ⟨lw_p40, List.forall_mem_cons.mpr ⟨lw_p41, List.forall_mem_cons.mpr ⟨lw_p42, List.forall_mem_cons.mpr ⟨lw_p43, List.forall_mem_cons.mpr ⟨lw_p44, List.forall_mem_cons.mpr ⟨lw_p45, List.forall_mem_cons.mpr ⟨lw_p46, List.forall_mem_cons.mpr ⟨lw_p47, fun _ h => absurd h List.not_mem_nil⟩⟩⟩⟩⟩⟩⟩⟩⟩⟩⟩⟩⟩⟩⟩⟩
theorem lw_p48 : lw_okq (⟨"TubHireModel", "does", "(I)V"⟩, 21) := ⟨⟨by decide +kernel, by decide +kernel⟩, List.mem_of_getElem? (i := 1384) (by decide +kernel), List.mem_of_getElem? (i := 1782) (by decide +kernel), List.mem_of_getElem? (i := 1783) (by decide +kernel)⟩
def lw_privs_4 : List (MethodName × Nat) := [(⟨"TubHireModel", "does", "(I)V"⟩, 21)]
theorem lw_r4 : ∀ q ∈ lw_privs_4, lw_okq q := List.forall_mem_cons.mpr ⟨lw_p48, fun _ h => absurd h List.not_mem_nil⟩
def lw_privs : List (MethodName × Nat) := lw_privs_1 ++ (lw_privs_2 ++ (lw_privs_3 ++ (lw_privs_4)))
def lw_tbl : List Cond := k2_sels lw_privs ++ tables_1
theorem lw_privs_ok : ∀ q ∈ lw_privs, lw_okq q := by
  show ∀ q ∈ lw_privs_1 ++ (lw_privs_2 ++ (lw_privs_3 ++ (lw_privs_4))), lw_okq q
  exact List.forall_mem_append.mpr ⟨lw_r1, List.forall_mem_append.mpr ⟨lw_r2, List.forall_mem_append.mpr ⟨lw_r3, lw_r4⟩⟩⟩
/-- the streams that the claim lets the run draw from -/
abbrev lw_cs : List Choice := [Jvm.Choice.named "NaN.bits"]
theorem lw_bits : nanBits ∈ lw_cs := by first | decide | exact List.mem_cons_self | simp [lw_cs, nanBits]
-- ===== end of PART A; then your names; then what follows =====
/-! ===== BEGIN words of one list among another's, by their places ===== -/
theorem goodIn_r {big : List Cond} (ws : List Cond) (ps : List Nat) (hp : ws = ps.filterMap (fun i => big[i]?)) (h : ws.all goodWord = true) : GoodIn big ws := by
  intro w hw
  have h1 := List.all_eq_true.mp h w hw
  rw [hp] at hw
  obtain ⟨i, -, hi⟩ := List.mem_filterMap.mp hw
  have hm : w ∈ big := by first | exact List.mem_of_getElem? hi | exact List.getElem?_mem hi
  exact ⟨hm, good_of_word h1⟩
theorem goodIn_app {big a b : List Cond} (ha : GoodIn big a) (hb : GoodIn big b) : GoodIn big (a ++ b) := fun w h => (List.mem_append.mp h).elim (ha w) (hb w)
theorem goodIn_ca {big a b : List Cond} {c : Cond} (ha : GoodIn big (c :: a)) (hb : GoodIn big b) : GoodIn big (c :: (a ++ b)) := fun w h => (List.mem_cons.mp h).elim (fun e => ha w (List.mem_cons.mpr (Or.inl e))) (fun h => (List.mem_append.mp h).elim (fun h => ha w (List.mem_cons.mpr (Or.inr h))) (hb w))
theorem goodIn_sub {big ws : List Cond} (hm : ∀ w ∈ ws, w ∈ big) (h : ws.all goodWord = true) : GoodIn big ws := fun w hw => ⟨hm w hw, good_of_word (List.all_eq_true.mp h w hw)⟩
/-! ===== END ===== -/

/-! ===== BEGIN exceptions that leave a method, and their catching by the caller (launches without stack traces) ===== -/
section VXA
/-! The laws vx_back, vx_callV, vx_callS, vx_callSW, vx_throw0, vx_throwS follow proofs of the library, with one case more: JvmDerived/Free/Laws.lean (Back.of_free), Shelf42/LK1.lean (callV, callS), Shelf/KitTraced.lean (throwNew0V, throwNewS). -/
/-- where a method has thrown q: the class by its name, the cell, what was written, the world -/
def vx_T (XC : String → State → State → Prop) (st : State) (q : Addr) (t : State) (mc ms : Nat) (free : Addr → Prop) : Prop :=
  ∃ (E : String) (ce : Cell) (L : List Loc), XC E st t ∧ t.heap[q]? = some ce ∧ ce.vm = .none ∧ st.vm.findClass E = some ce.cls ∧ st.WarmedH t.vm ∧ st.sameButNew ({ t with vm := st.vm } : State) L mc ms ∧ ∀ z ∈ L, free z.base
def vx_Q (Qc : Array Value → State → Outcome → State → Prop) (XC : String → State → State → Prop) (mc ms : Nat) (free : Addr → Prop) : Array Value → State → Outcome → State → Prop := fun a st o t =>
  (Qc a st o t ∧ ∃ L, FrameEnd st o t L mc ms ∧ ∀ q ∈ L, free q.base) ∨ ∃ q, o = .threw q ∧ vx_T XC st q t mc ms free
/-- a callee that returns or throws -/
def vx_Met (l : Launch) (y : MethodName) (ws : List Cond) (rm : Room) (Pc : Array Value → State → Prop) (Qc : Array Value → State → Outcome → State → Prop) (XC : String → State → State → Prop) (mc ms : Nat) (free : Addr → Prop) : Prop :=
  MetFree l y (headSpec ws rm) Pc (fun _ _ _ _ _ => True) (vx_Q Qc XC mc ms free)
def vx_Post (XC : String → State → State → Prop) (mc ms : Nat) (free : Addr → Prop) : Pt → Array Value → Addr → Pt → Prop := fun A a q B =>
  ∃ (g : JFrame) (mk : MethodId) (t : State) (L : List Loc) (E : String) (ce : Cell), B.U.heap = t.heap ∧ B.U.vm = t.vm ∧ XC E (A.U.calling g mk a) t ∧ t.heap[q]? = some ce ∧ ce.vm = .none ∧ A.U.vm.findClass E = some ce.cls ∧ B.locs = A.locs ++ L ∧ (∀ z ∈ L, free z.base) ∧ B.cells = A.cells + mc ∧ B.slots = A.slots + ms
def vx_Back (l : Launch) (R : Room) (p : Program) (e : Env) (below : List Frame) (s : State) (sargs : Array Value) (y : MethodName) (len W9 : Nat)
    (Pre : Pt → Array Value → Prop) (Post : Pt → Array Value → Option Value → Pt → Prop) (PostX : Pt → Array Value → Addr → Pt → Prop) : Prop :=
  ∀ (m : MethodId) (meth : Method) (c : Code) (A : Pt) (g : JFrame) (ig : Instr) (mk : MethodId) (a : Array Value),
    Stand p l e R s m sargs below meth c A.U A.locs A.cells A.slots → g.method = m → g.locals.size = c.maxLocals → decode c.code g.pc = .ok (ig, len) →
    2 * g.monitorRoom + (g.stack.map fun v => v.category).sum ≤ W9 → A.U.methodNamed? y = some mk → Pre A a →
    (∃ (v : Option Value) (B : Pt), Stand p l e R s m sargs below meth c B.U B.locs B.cells B.slots ∧ Post A a v B ∧
      Steps p.tables e below (doInvoke e (A.U.setTop g) [] mk a).1 (B.U.setTop { g with pc := g.pc + len, stack := v.toList ++ g.stack })) ∨
    (∃ (q : Addr) (B : Pt), Stand p l e R s m sargs below meth c B.U B.locs B.cells B.slots ∧ PostX A a q B ∧
      Steps p.tables e below (doInvoke e (A.U.setTop g) [] mk a).1 ((B.U.setTop g).pushFrame (.throwing q)))
section Payer
variable {l : Launch} {R : Room} {p : Program} {e : Env} {below : List Frame} {s : State} {sargs : Array Value} {y : MethodName} {len W9 : Nat}
theorem vx_back {ws : List Cond} {rm : Room} {Pc : Array Value → State → Prop} {Qc : Array Value → State → Outcome → State → Prop} {XC : String → State → State → Prop} {mc ms : Nat} {free : Addr → Prop} {bytes : ByteArray} {maxL : Nat} {ret : Option FieldType}
    (hM : vx_Met l y ws rm Pc Qc XC mc ms free) (hblind : FrameBlind Pc) (hrc : rm.cells = mc) (hrs : rm.slots = ms)
    (hframes : rm.frames + 1 ≤ R.frames) (hlocals : W9 + (maxL + 11) + rm.locals ≤ R.locals)
    (hws : ∀ w ∈ ws, ∀ a' U, s.WarmedH U.vm → w.before a' U = true) (hcode : Cond.code y bytes maxL ret ∈ ws) (hinit : ∀ a' U, s.WarmedH U.vm → (Cond.initialized y.cls).before a' U = true) :
    vx_Back l R p e below s sargs y len W9 (PreOf R mc ms Pc) (PostOf Qc mc ms free) (vx_Post XC mc ms free) := by
  intro m meth c A g ig mk a X hg hsize hdg hW hn hp
  have h1 : (headSpec ws rm).pre.before a A.U = true := atoms_intro fun w hw => hws w hw _ _ X.warmed
  have h2 : (Cond.code y bytes maxL ret).before a A.U = true := hws _ hcode _ _ X.warmed
  have h3 : (Cond.initialized y.cls).before a A.U = true := hinit _ _ X.warmed
  have h4 : A.cells + (headSpec ws rm).room.cells ≤ R.cells := by rw [show (headSpec ws rm).room.cells = mc from hrc]; exact hp.1
  have h5 : A.slots + (headSpec ws rm).room.slots ≤ R.slots := by rw [show (headSpec ws rm).room.slots = ms from hrs]; exact hp.2.1
  have hPc : Pc a (A.U.calling g mk a) := hblind _ _ _ _ hp.2.2
  obtain ⟨U, Ls, c0, s0⟩ := A
  dsimp only [Pt.U, Pt.locs, Pt.cells, Pt.slots] at h1 h2 h3 h4 h5 X hn hPc ⊢
  obtain ⟨methY, cY, hmY, hcY, -, hlY, -, -, -, -⟩ := Cond.code_spec hn h2
  obtain ⟨kY, hkY, -⟩ := className_of_methodNamed hn
  have hinitY : kY.init = .initialized := Cond.initialized_spec (findClass_of_methodNamed hn) hkY h3
  have h : At U g.method c below := by rw [hg]; exact X.here
  have hlocals9 : W9 + (maxL + 11) + (headSpec ws rm).room.locals ≤ R.locals := hlocals
  have happ : (headSpec ws rm).appliesLoose y e.platform (U.calling g mk a) = true :=
    Spec.appliesLoose_calling (g := g) h hdg hn hkY hinitY
      (X.room_calling (g := g) (R' := (headSpec ws rm).room) hsize hmY hcY hframes (by rw [hlY]; omega) h4 h5) h1
  obtain ⟨mid, hmid⟩ := h.above
  have hfr : (U.setTop g).frames = (.java g :: mid) ++ below := by rw [State.frames_setTop' g h.top, hmid]; rfl
  obtain ⟨o, s₂, hsteps, -, hend, hq⟩ := Steps.callFree hM p X.admits X.cas X.clock (acts := []) hfr happ hPc trivial
  have hq' : vx_Q Qc XC mc ms free a (U.calling g mk a) o s₂ := hq
  rw [State.frames_setTop' g h.top] at hend
  obtain ⟨g₀, hg0⟩ := Option.isSome_iff_exists.mp h.top
  obtain ⟨r, hr⟩ := State.topJava?_eq_some.mp hg0
  have hr' : (({ U with heap := s₂.heap, slotsUsed := s₂.slotsUsed } : State).setVm s₂.vm).frames = .java g₀ :: r := hr
  rcases hq' with ⟨hqc, L, hfe, hL⟩ | ⟨q, rfl, E, ce, L, hx, hce, hcv, hcl, hW₂, hsm, hL⟩
  · obtain ⟨⟨v, rfl⟩, hW₂, e2, q2, q3, q4, q5, q6⟩ := id hfe
    have e3 : s₂ = ({ (U.calling g mk a).setFrames s₂.frames with heap := s₂.heap, slotsUsed := s₂.slotsUsed } : State).setVm s₂.vm := by
      have : s₂ = ({ s₂ with vm := (U.calling g mk a).vm } : State).setVm s₂.vm := rfl
      rw [e2] at this
      exact this
    obtain ⟨c₂, i₂, len₂, hc₂, hd₂, hf₂⟩ := hend
    have hW' : U.WarmedH s₂.vm := hW₂
    have hcc : c₂ = c := by
      have h1 : s₂.code? g.method = U.code? g.method := by
        rw [State.code?_eq, State.code?_eq, hW'.alike.method?]
      exact Option.some.inj (hc₂.symm.trans (h1.trans h.code))
    subst hcc
    have hlen : len₂ = len := by rw [hdg] at hd₂; cases hd₂; rfl
    subst hlen
    have hs₂ : s₂ = (({ U with heap := s₂.heap, slotsUsed := s₂.slotsUsed } : State).setVm s₂.vm).setTop { g with pc := g.pc + len₂, stack := v.toList ++ g.stack } := by
      refine e3.trans ?_
      rw [hf₂, State.calling_eq h.top, State.setFrames_setFrames, State.setTop_of_frames _ hr', hr]
      rfl
    have hsame : U.sameButNew ({ U with heap := s₂.heap, slotsUsed := s₂.slotsUsed } : State) L mc ms := by
      refine ⟨?_, q2, q3, q4, q5, q6⟩
      obtain ⟨t, ht, -⟩ := State.frames_cons hr
      show ({ U with heap := s₂.heap, slotsUsed := s₂.slotsUsed } : State) = { U.setFrames U.frames with heap := s₂.heap, slotsUsed := s₂.slotsUsed }
      rw [State.setFrames_self ht]
    subst hg
    refine Or.inl ⟨v, ⟨(({ U with heap := s₂.heap, slotsUsed := s₂.slotsUsed } : State).setVm s₂.vm), Ls ++ L, c0 + mc, s0 + ms⟩,
      ⟨X.admits, X.cas, X.clock, X.frames, X.room, X.hears, X.method, X.code, (X.here.setHeapUsed s₂.heap s₂.slotsUsed).setVm hW'.alike, X.tail, State.WarmedH.trans X.warmed hW', X.limits, X.bytes, X.same.trans (hsame.setVm s.vm)⟩,
      ⟨g, mk, s₂, L, rfl, rfl, hqc, rfl, hL, rfl, rfl⟩, ?_⟩
    show Steps p.tables e below _ ((({ U with heap := s₂.heap, slotsUsed := s₂.slotsUsed } : State).setVm s₂.vm).setTop { g with pc := g.pc + len₂, stack := v.toList ++ g.stack })
    rw [← hs₂]
    exact hsteps
  · obtain ⟨e2, q2, q3, q4, q5, q6⟩ := id hsm
    have e3 : s₂ = ({ (U.calling g mk a).setFrames s₂.frames with heap := s₂.heap, slotsUsed := s₂.slotsUsed } : State).setVm s₂.vm := by
      have : s₂ = ({ s₂ with vm := (U.calling g mk a).vm } : State).setVm s₂.vm := rfl
      rw [e2] at this
      exact this
    have hf₂ : s₂.frames = .throwing q :: .java g :: U.frames.tail := hend
    have hW' : U.WarmedH s₂.vm := hW₂
    have hs₂ : s₂ = ((({ U with heap := s₂.heap, slotsUsed := s₂.slotsUsed } : State).setVm s₂.vm).setTop g).pushFrame (.throwing q) := by
      refine e3.trans ?_
      rw [hf₂, State.calling_eq h.top, State.setFrames_setFrames, State.pushFrame, State.frames_setTop _ hr', State.setTop_of_frames _ hr', State.setFrames_setFrames, hr]
      rfl
    have hsame : U.sameButNew ({ U with heap := s₂.heap, slotsUsed := s₂.slotsUsed } : State) L mc ms := by
      refine ⟨?_, q2, q3, q4, q5, q6⟩
      obtain ⟨t, ht, -⟩ := State.frames_cons hr
      show ({ U with heap := s₂.heap, slotsUsed := s₂.slotsUsed } : State) = { U.setFrames U.frames with heap := s₂.heap, slotsUsed := s₂.slotsUsed }
      rw [State.setFrames_self ht]
    subst hg
    refine Or.inr ⟨q, ⟨(({ U with heap := s₂.heap, slotsUsed := s₂.slotsUsed } : State).setVm s₂.vm), Ls ++ L, c0 + mc, s0 + ms⟩,
      ⟨X.admits, X.cas, X.clock, X.frames, X.room, X.hears, X.method, X.code, (X.here.setHeapUsed s₂.heap s₂.slotsUsed).setVm hW'.alike, X.tail, State.WarmedH.trans X.warmed hW', X.limits, X.bytes, X.same.trans (hsame.setVm s.vm)⟩,
      ⟨g, mk, s₂, L, E, ce, rfl, rfl, hx, hce, hcv, hcl, rfl, hL, rfl, rfl⟩, ?_⟩
    show Steps p.tables e below _ (((({ U with heap := s₂.heap, slotsUsed := s₂.slotsUsed } : State).setVm s₂.vm).setTop g).pushFrame (.throwing q))
    rw [← hs₂]
    exact hsteps
end Payer
section Calls
variable {p : Program} {l : Launch} {e : Env} {R : Room} {s : State} {m : MethodId} {args : Array Value} {below : List Frame} {meth : Method} {c : Code} {T : State} {locs : List Loc} {cells slots : Nat}
theorem vx_callV (X : Stand p l e R s m args below meth c T locs cells slots) (hexec : p.tables.exec = Jvm.exec) {own C : String} {index : Nat} {y : MethodName} {bytes : ByteArray} {maxL : Nat} {ret : Option FieldType}
    (hown : s.vm.findClass own = some m.cls) (hlink : (Cond.methodLink own index y).before args s = true) (hinst : (Cond.instanceMethod y).before args s = true) (hsel : (Cond.selects C y y).before args s = true)
    (hcode : (Cond.code y bytes maxL ret).before args s = true) (hy : y.cls ≠ "java/lang/invoke/MethodHandle" ∧ y.cls ≠ "java/lang/invoke/VarHandle")
    {W9 : Nat} {Pre : Pt → Array Value → Prop} {Post : Pt → Array Value → Option Value → Pt → Prop} {PostX : Pt → Array Value → Addr → Pt → Prop} (hK : vx_Back l R p e below s args y 3 W9 Pre Post PostX)
    {b : Addr} {cellB : Cell} (hcell : T.heap[b]? = some cellB) (hobj : cellB.vm.isStatics = false) (hcls : s.vm.findClass C = some cellB.cls)
    {g : JFrame} (hg : g.method = m) (hsize : g.locals.size = c.maxLocals) {argsL rest : List Value} (hlen : ∀ sig, parseMethodDescriptor y.desc = some sig → argsL.length = sig.parameters.length)
    (hstack : g.stack = argsL.reverse ++ .ref b :: rest) (hW : 2 * g.monitorRoom + (rest.map fun v => v.category).sum ≤ W9) (hdg : decode c.code g.pc = .ok (.invokevirtual index, 3))
    (hpre : ∀ vm₁, s.WarmedH vm₁ → Pre ⟨T.setVm vm₁, locs, cells, slots⟩ (Value.ref b :: argsL).toArray) :
    (∃ (v : Option Value) (vm₁ : Vm) (B : Pt), s.WarmedH vm₁ ∧ Stand p l e R s m args below meth c B.U B.locs B.cells B.slots ∧ Post ⟨T.setVm vm₁, locs, cells, slots⟩ (Value.ref b :: argsL).toArray v B ∧
      ∀ target, Steps p.tables e below (B.U.setTop { g with pc := g.pc + 3, stack := v.toList ++ rest }) target → Steps p.tables e below (T.setTop g) target) ∨
    (∃ (q : Addr) (vm₁ : Vm) (B : Pt), s.WarmedH vm₁ ∧ Stand p l e R s m args below meth c B.U B.locs B.cells B.slots ∧ PostX ⟨T.setVm vm₁, locs, cells, slots⟩ (Value.ref b :: argsL).toArray q B ∧
      Steps p.tables e below (T.setTop g) ((B.U.setTop { g with stack := rest }).pushFrame (.throwing q))) := by
  obtain ⟨mk, methM, hnamed, hmethM, hstM, habM⟩ := Cond.instanceMethod_spec hinst
  obtain ⟨methM', cM, hmethM', -, -, -, -, -, -, hsigM⟩ := Cond.code_spec hnamed hcode
  cases hmethM.symm.trans hmethM'
  obtain ⟨c2, r2, m2, q1, q2, q3, q4, kP, hkP, hkPi⟩ := Cond.selects_spec hsel
  cases hcls.symm.trans q1
  cases (State.methodFound?_of_named hnamed hy).symm.trans q2
  cases hnamed.symm.trans q3
  have hselP : selectMethod e.platform s.vm cellB.cls mk = .method mk := by rw [Launch.admits_selectMethod X.admits]; exact q4
  obtain ⟨vm₁, X₁, hstep₁⟩ := X.invokevirtual hexec hown hlink hnamed hmethM hstM hkP hkPi hy (a := b) (cell := cellB) hcell
    (fun z h => by rw [h] at hobj; cases hobj) hselP hmethM habM hkP hkPi (g := g) hg (argsL := argsL) (rest := rest) (hlen _ hsigM) hstack hdg
  rcases hK m meth c ⟨T.setVm vm₁, locs, cells, slots⟩ { g with stack := rest } (.invokevirtual index) mk (Value.ref b :: argsL).toArray X₁ hg hsize hdg hW (X₁.named hnamed) (hpre vm₁ X₁.warmed) with ⟨v, B, X', hpost, hsteps⟩ | ⟨q, B, X', hpost, hsteps⟩
  · exact Or.inl ⟨v, vm₁, B, X₁.warmed, X', hpost, fun target h => hstep₁ _ fun acts => by rw [doInvoke_state]; exact hsteps.trans h⟩
  · exact Or.inr ⟨q, vm₁, B, X₁.warmed, X', hpost, hstep₁ _ fun acts => by rw [doInvoke_state]; exact hsteps⟩
theorem vx_callS (X : Stand p l e R s m args below meth c T locs cells slots) (hexec : p.tables.exec = Jvm.exec) {own : String} {index : Nat} {y : MethodName} {bytes : ByteArray} {maxL : Nat} {ret : Option FieldType}
    (hown : s.vm.findClass own = some m.cls) (hlink : (Cond.methodLink own index y).before args s = true) (hstat : (Cond.static y).before args s = true) (hinit : (Cond.initialized y.cls).before args s = true)
    (hcode : (Cond.code y bytes maxL ret).before args s = true) (hy : y.cls ≠ "java/lang/invoke/MethodHandle" ∧ y.cls ≠ "java/lang/invoke/VarHandle")
    {W9 : Nat} {Pre : Pt → Array Value → Prop} {Post : Pt → Array Value → Option Value → Pt → Prop} {PostX : Pt → Array Value → Addr → Pt → Prop} (hK : vx_Back l R p e below s args y 3 W9 Pre Post PostX)
    {g : JFrame} (hg : g.method = m) (hsize : g.locals.size = c.maxLocals) {argsL rest : List Value} (hlen : ∀ sig, parseMethodDescriptor y.desc = some sig → argsL.length = sig.parameters.length)
    (hstack : g.stack = argsL.reverse ++ rest) (hW : 2 * g.monitorRoom + (rest.map fun v => v.category).sum ≤ W9) (hdg : decode c.code g.pc = .ok (.invokestatic index, 3))
    (hpre : ∀ vm₁, s.WarmedH vm₁ → Pre ⟨T.setVm vm₁, locs, cells, slots⟩ argsL.toArray) :
    (∃ (v : Option Value) (vm₁ : Vm) (B : Pt), s.WarmedH vm₁ ∧ Stand p l e R s m args below meth c B.U B.locs B.cells B.slots ∧ Post ⟨T.setVm vm₁, locs, cells, slots⟩ argsL.toArray v B ∧
      ∀ target, Steps p.tables e below (B.U.setTop { g with pc := g.pc + 3, stack := v.toList ++ rest }) target → Steps p.tables e below (T.setTop g) target) ∨
    (∃ (q : Addr) (vm₁ : Vm) (B : Pt), s.WarmedH vm₁ ∧ Stand p l e R s m args below meth c B.U B.locs B.cells B.slots ∧ PostX ⟨T.setVm vm₁, locs, cells, slots⟩ argsL.toArray q B ∧
      Steps p.tables e below (T.setTop g) ((B.U.setTop { g with stack := rest }).pushFrame (.throwing q))) := by
  obtain ⟨mk, hnamed⟩ := Cond.code_named hcode
  obtain ⟨methM, cM, hmethM, -, -, -, -, -, -, hsigM⟩ := Cond.code_spec hnamed hcode
  have hstatic : methM.isStatic = true := Cond.static_spec hnamed hmethM hstat
  obtain ⟨kP, hkP, -⟩ := className_of_methodNamed hnamed
  have hinitP : kP.init = .initialized := Cond.initialized_spec (findClass_of_methodNamed hnamed) hkP hinit
  obtain ⟨vm₁, X₁, hstep₁⟩ := X.invokestatic hexec hown hlink hnamed hmethM hstatic hkP hinitP hy (g := g) hg (argsL := argsL) (rest := rest) (hlen _ hsigM) hstack hdg
  rcases hK m meth c ⟨T.setVm vm₁, locs, cells, slots⟩ { g with stack := rest } (.invokestatic index) mk argsL.toArray X₁ hg hsize hdg hW (X₁.named hnamed) (hpre vm₁ X₁.warmed) with ⟨v, B, X', hpost, hsteps⟩ | ⟨q, B, X', hpost, hsteps⟩
  · exact Or.inl ⟨v, vm₁, B, X₁.warmed, X', hpost, fun target h => hstep₁ _ fun acts => by rw [doInvoke_state]; exact hsteps.trans h⟩
  · exact Or.inr ⟨q, vm₁, B, X₁.warmed, X', hpost, hstep₁ _ fun acts => by rw [doInvoke_state]; exact hsteps⟩
end Calls
theorem vx_cls {s : State} {T : State} {vm₁ : Vm} {E : String} {k : ClassId} (hW : s.WarmedH vm₁) (h : (T.setVm vm₁).vm.findClass E = some k) : s.vm.findClass E = some k := by
  have h1 : vm₁.findClass E = some k := h
  rw [hW.alike.findClass] at h1
  exact h1
/-- the method's frame g, with q thrown over it -/
def vx_W (p : Program) (l : Launch) (e : Env) (R : Room) (s : State) (m : MethodId) (args : Array Value) (below : List Frame) (meth : Method) (c : Code) (H : Heap) (locs : List Loc) (cells slots : Nat) (Q : State → Prop) (g : JFrame) (q : Addr) : Prop :=
  ∀ T : State, T.heap = H → Stand p l e R s m args below meth c T locs cells slots → ∃ t, Steps p.tables e below ((T.setTop g).pushFrame (.throwing q)) t ∧ Q t
def vx_Run (p : Program) (l : Launch) (e : Env) (R : Room) (s : State) (m : MethodId) (args : Array Value) (below : List Frame) (meth : Method) (c : Code) (H : Heap) (locs : List Loc) (cells slots mc ms : Nat) (g : JFrame) (rest : List Value) (Qa : State → Outcome → State → Prop) (XC : String → State → State → Prop) (free : Addr → Prop) : Prop :=
  ∀ T : State, T.heap = H → Stand p l e R s m args below meth c T locs cells slots →
    (∃ (v : Option Value) (st₀ t T' : State) (L : List Loc), st₀.heap = H ∧ Stand p l e R s m args below meth c T' (locs ++ L) (cells + mc) (slots + ms) ∧ (∀ q ∈ L, free q.base) ∧ T'.heap = t.heap ∧ T'.vm = t.vm ∧ Qa st₀ (.returned v) t ∧
      Goes p e below T g T' { g with pc := g.pc + 3, stack := v.toList ++ rest }) ∨
    (∃ (q : Addr) (st₀ t T' : State) (L : List Loc) (E : String) (ce : Cell), st₀.heap = H ∧ Stand p l e R s m args below meth c T' (locs ++ L) (cells + mc) (slots + ms) ∧ (∀ z ∈ L, free z.base) ∧ T'.heap = t.heap ∧ T'.vm = t.vm ∧ XC E st₀ t ∧ t.heap[q]? = some ce ∧ ce.vm = .none ∧ s.vm.findClass E = some ce.cls ∧
      Steps p.tables e below (T.setTop g) ((T'.setTop { g with stack := rest }).pushFrame (.throwing q)))
def vx_X {S : Type} (px : S → Prop) (B : String → S → State → Prop) (A : Nat → Prop) : String → State → State → Prop := fun E st t => ∃ u : S, px u ∧ B E u t ∧ va_F A st t
section Runs
variable {p : Program} {l : Launch} {e : Env} {R : Room} {s : State} {m : MethodId} {args : Array Value} {below : List Frame} {meth : Method} {c : Code} {H : Heap} {locs : List Loc} {cells slots : Nat}
variable {y : MethodName} {bytes cc : ByteArray} {maxL nL mc ms n index : Nat} {ret : Option FieldType} {ws : List Cond} {rm : Room} {Pc : Array Value → State → Prop} {Qc : Array Value → State → Outcome → State → Prop} {XC : String → State → State → Prop} {free : Addr → Prop} {Ts : List Cond} {own C : String} {b : Addr} {As rest : List Value} {g : JFrame}
theorem vx_callBack (cb : CallB R s args own index y bytes maxL ret ws rm mc ms n) (hM : vx_Met l y ws rm Pc Qc XC mc ms free) (hbl : FrameBlind Pc) : vx_Back l R p e below s args y 3 8 (PreOf R mc ms Pc) (PostOf Qc mc ms free) (vx_Post XC mc ms free) := by
  obtain ⟨hrc, hrs, hfr, hlo, hws, hcw, -, hini, -⟩ := cb
  exact vx_back (bytes := bytes) (maxL := maxL) (ret := ret) hM hbl hrc hrs hfr hlo hws hcw (fun a' U hW => word_at hW (Or.inl (by first | rfl | simp [Cond.onTables, Cond.keeps, Cond.steady])) hini)
theorem vx_runV (S : CallFix p m c cc nL s args Ts own) (hM : vx_Met l y ws rm Pc Qc XC mc ms free) (cw : CallW R s args own C index y bytes maxL ret ws rm mc ms n) (hp : PreV s H C b Pc As)
    (hg : g.method = m) (hn : As.length = n) (hsize : g.locals.size = nL) (hstack : g.stack = As.reverse ++ .ref b :: rest) (hW : 2 * g.monitorRoom + (rest.map fun v => v.category).sum ≤ 8) (hdg : decode cc g.pc = .ok (.invokevirtual index, 3)) (hf : cells + mc ≤ R.cells ∧ slots + ms ≤ R.slots) :
    vx_Run p l e R s m args below meth c H locs cells slots mc ms g rest (Qc (Value.ref b :: As).toArray) XC free := by
  have hK : vx_Back l R p e below s args y 3 8 (PreOf R mc ms Pc) (PostOf Qc mc ms free) (vx_Post XC mc ms free) := vx_callBack cw.1 hM hp.1
  obtain ⟨⟨-, -, -, -, -, -, hcode, -, hy, hlen, hl⟩, hin, hse⟩ := cw
  obtain ⟨hx, hb, hml, ho, -⟩ := S
  obtain ⟨-, ⟨cellB, hcB, hoB, hclB⟩, hPc⟩ := hp
  intro T hT X
  rcases vx_callV X hx (C := C) (bytes := bytes) (maxL := maxL) (ret := ret) ho hl hin hse hcode hy hK (by rw [hT]; exact hcB) hoB hclB hg (hsize.trans hml.symm) (argsL := As) (rest := rest) (fun sig h => hn.trans (hlen sig h)) hstack hW (by rw [hb]; exact hdg)
    (fun vm₁ hW₁ => ⟨hf.1, hf.2, hPc (T.setVm vm₁) hT hW₁⟩) with ⟨v, vm₁, ⟨U', l2, c2, s2⟩, hW₁, X', ⟨g', mk, t, L, e1, e2, hq, h1, hL, h2, h3⟩, st⟩ | ⟨q, vm₁, ⟨U', l2, c2, s2⟩, hW₁, X', ⟨g', mk, t, L, E, ce, e1, e2, hq, hce, hcv, hcl, h1, hL, h2, h3⟩, st⟩
  · dsimp only [Pt.U, Pt.locs, Pt.cells, Pt.slots] at X' e1 e2 h1 h2 h3 st
    subst h1; subst h2; subst h3
    exact Or.inl ⟨v, (T.setVm vm₁).calling g' mk (Value.ref b :: As).toArray, t, U', L, hT, X', hL, e1, e2, hq, st⟩
  · dsimp only [Pt.U, Pt.locs, Pt.cells, Pt.slots] at X' e1 e2 h1 h2 h3 st hcl
    subst h1; subst h2; subst h3
    exact Or.inr ⟨q, (T.setVm vm₁).calling g' mk (Value.ref b :: As).toArray, t, U', L, E, ce, hT, X', hL, e1, e2, hq, hce, hcv, vx_cls hW₁ hcl, st⟩
theorem vx_runS (S : CallFix p m c cc nL s args Ts own) (hM : vx_Met l y ws rm Pc Qc XC mc ms free) (cw : CallB R s args own index y bytes maxL ret ws rm mc ms n ∧ (Cond.static y).before args s = true) (hp : PreS s H Pc As)
    (hg : g.method = m) (hn : As.length = n) (hsize : g.locals.size = nL) (hstack : g.stack = As.reverse ++ rest) (hW : 2 * g.monitorRoom + (rest.map fun v => v.category).sum ≤ 8) (hdg : decode cc g.pc = .ok (.invokestatic index, 3)) (hf : cells + mc ≤ R.cells ∧ slots + ms ≤ R.slots) :
    vx_Run p l e R s m args below meth c H locs cells slots mc ms g rest (Qc As.toArray) XC free := by
  have hK : vx_Back l R p e below s args y 3 8 (PreOf R mc ms Pc) (PostOf Qc mc ms free) (vx_Post XC mc ms free) := vx_callBack cw.1 hM hp.1
  obtain ⟨⟨-, -, -, -, -, -, hcode, hini, hy, hlen, hl⟩, hstt⟩ := cw
  obtain ⟨hx, hb, hml, ho, -⟩ := S
  intro T hT X
  rcases vx_callS X hx (bytes := bytes) (maxL := maxL) (ret := ret) ho hl hstt hini hcode hy hK hg (hsize.trans hml.symm) (argsL := As) (rest := rest) (fun sig h => hn.trans (hlen sig h)) hstack hW (by rw [hb]; exact hdg)
    (fun vm₁ hW₁ => ⟨hf.1, hf.2, hp.2 (T.setVm vm₁) hT hW₁⟩) with ⟨v, vm₁, ⟨U', l2, c2, s2⟩, hW₁, X', ⟨g', mk, t, L, e1, e2, hq, h1, hL, h2, h3⟩, st⟩ | ⟨q, vm₁, ⟨U', l2, c2, s2⟩, hW₁, X', ⟨g', mk, t, L, E, ce, e1, e2, hq, hce, hcv, hcl, h1, hL, h2, h3⟩, st⟩
  · dsimp only [Pt.U, Pt.locs, Pt.cells, Pt.slots] at X' e1 e2 h1 h2 h3 st
    subst h1; subst h2; subst h3
    exact Or.inl ⟨v, (T.setVm vm₁).calling g' mk As.toArray, t, U', L, hT, X', hL, e1, e2, hq, st⟩
  · dsimp only [Pt.U, Pt.locs, Pt.cells, Pt.slots] at X' e1 e2 h1 h2 h3 st hcl
    subst h1; subst h2; subst h3
    exact Or.inr ⟨q, (T.setVm vm₁).calling g' mk As.toArray, t, U', L, E, ce, hT, X', hL, e1, e2, hq, hce, hcv, vx_cls hW₁ hcl, st⟩
end Runs
section Rows
variable {p : Program} {l : Launch} {e : Env} {R : Room} {s : State} {m : MethodId} {args : Array Value} {below : List Frame} {meth : Method} {c : Code} {H : Heap} {locs : List Loc} {cells slots : Nat} {Q : State → Prop}
variable {mc ms : Nat} {free : Addr → Prop} {A0 A1 : Nat → Prop} {H0 : Heap} {a : Array Value} {pc : Nat} {ls : Array Slot} {st0 rest : List Value}
theorem vx_keep {st₀ t T' : State} {L : List Loc} (h0 : st₀.heap = H) (e1 : T'.heap = t.heap) (hS : va_S A0 H0 H locs) (hA : ∀ q, q < H.size → A1 q → A0 q) (hf : ∀ q, free q → A0 q) (hL : ∀ q ∈ L, free q.base) (hF : va_F A1 st₀ t) :
    H.size ≤ T'.heap.size ∧ (∀ q : Nat, q < H.size → ¬ A1 q → T'.heap[q]? = H[q]?) ∧ va_S A0 H0 T'.heap (locs ++ L) := by
  obtain ⟨hz, hk⟩ := hF
  rw [h0] at hz hk
  exact ⟨by rw [e1]; exact hz, fun q h1 h2 => by rw [e1]; exact hk q h1 h2,
    ⟨Nat.le_trans hS.1 (by rw [e1]; exact hz), fun q h1 h2 => by rw [e1, hk q (Nat.lt_of_lt_of_le h1 hS.1) (fun z => h2 (hA q (Nat.lt_of_lt_of_le h1 hS.1) z))]; exact hS.2.1 q h1 h2, fun q hq => by
      rcases List.mem_append.mp hq with h | h
      · exact hS.2.2 q h
      · exact hf _ (hL q h)⟩⟩
theorem vx_calli {S SX : Type} {post : Int32 → S → Prop} {px : SX → Prop} {B : S → State → Prop} {BX : String → SX → State → Prop} {AX : Nat → Prop} (hr : vx_Run p l e R s m args below meth c H locs cells slots mc ms (F0 m pc ls st0) rest (va_Qi post B A1 a) (vx_X px BX AX) free) (hS : va_S A0 H0 H locs) (hA : ∀ q, q < H.size → A1 q → A0 q) (hf : ∀ q, free q → A0 q) (hAX : ∀ q, q < H.size → AX q → A0 q)
    (kx : ∀ (E : String) (ce : Cell) (q9 : Addr) (u : SX) (t : State) (H1 : Heap) (locs1 : List Loc), t.heap = H1 → s.vm.Alike t.vm → px u → BX E u t → H.size ≤ H1.size → (∀ q : Nat, q < H.size → ¬ AX q → H1[q]? = H[q]?) → va_S A0 H0 H1 locs1 → H1[q9]? = some ce → ce.vm = .none → s.vm.findClass E = some ce.cls → vx_W p l e R s m args below meth c H1 locs1 (cells + mc) (slots + ms) Q (F0 m pc ls rest) q9)
    (kk : ∀ (r : Int32) (u : S) (t : State) (H1 : Heap) (locs1 : List Loc), t.heap = H1 → s.vm.Alike t.vm → post r u → B u t → H.size ≤ H1.size → (∀ q : Nat, q < H.size → ¬ A1 q → H1[q]? = H[q]?) → va_S A0 H0 H1 locs1 → W p l e R s m args below meth c H1 locs1 (cells + mc) (slots + ms) Q (F0 m (pc + 3) ls (.int r :: rest))) : W p l e R s m args below meth c H locs cells slots Q (F0 m pc ls st0) := by
  intro T hT X
  rcases hr T hT X with ⟨v, st₀, t, T', L, h0, X', hL, e1, e2, ⟨⟨r, u, hv, hp, hb⟩, hF⟩, st⟩ | ⟨q, st₀, t, T', L, E, ce, h0, X', hL, e1, e2, ⟨u, hp, hb, hF⟩, hce, hcv, hcl, st⟩
  · cases hv
    obtain ⟨k1, k2, k3⟩ := vx_keep h0 e1 hS hA hf hL hF
    obtain ⟨t2, a1, b1⟩ := kk r u t T'.heap (locs ++ L) e1.symm (by rw [← e2]; exact X'.warmed.alike) hp hb k1 k2 k3 T' rfl X'
    exact ⟨t2, st t2 a1, b1⟩
  · obtain ⟨k1, k2, k3⟩ := vx_keep h0 e1 hS hAX hf hL hF
    obtain ⟨t2, a1, b1⟩ := kx E ce q u t T'.heap (locs ++ L) e1.symm (by rw [← e2]; exact X'.warmed.alike) hp hb k1 k2 k3 (by rw [e1]; exact hce) hcv hcl T' rfl X'
    exact ⟨t2, st.trans a1, b1⟩
theorem vx_calll {S SX : Type} {post : Int64 → S → Prop} {px : SX → Prop} {B : S → State → Prop} {BX : String → SX → State → Prop} {AX : Nat → Prop} (hr : vx_Run p l e R s m args below meth c H locs cells slots mc ms (F0 m pc ls st0) rest (va_Ql post B A1 a) (vx_X px BX AX) free) (hS : va_S A0 H0 H locs) (hA : ∀ q, q < H.size → A1 q → A0 q) (hf : ∀ q, free q → A0 q) (hAX : ∀ q, q < H.size → AX q → A0 q)
    (kx : ∀ (E : String) (ce : Cell) (q9 : Addr) (u : SX) (t : State) (H1 : Heap) (locs1 : List Loc), t.heap = H1 → s.vm.Alike t.vm → px u → BX E u t → H.size ≤ H1.size → (∀ q : Nat, q < H.size → ¬ AX q → H1[q]? = H[q]?) → va_S A0 H0 H1 locs1 → H1[q9]? = some ce → ce.vm = .none → s.vm.findClass E = some ce.cls → vx_W p l e R s m args below meth c H1 locs1 (cells + mc) (slots + ms) Q (F0 m pc ls rest) q9)
    (kk : ∀ (r : Int64) (u : S) (t : State) (H1 : Heap) (locs1 : List Loc), t.heap = H1 → s.vm.Alike t.vm → post r u → B u t → H.size ≤ H1.size → (∀ q : Nat, q < H.size → ¬ A1 q → H1[q]? = H[q]?) → va_S A0 H0 H1 locs1 → W p l e R s m args below meth c H1 locs1 (cells + mc) (slots + ms) Q (F0 m (pc + 3) ls (.long r :: rest))) : W p l e R s m args below meth c H locs cells slots Q (F0 m pc ls st0) := by
  intro T hT X
  rcases hr T hT X with ⟨v, st₀, t, T', L, h0, X', hL, e1, e2, ⟨⟨r, u, hv, hp, hb⟩, hF⟩, st⟩ | ⟨q, st₀, t, T', L, E, ce, h0, X', hL, e1, e2, ⟨u, hp, hb, hF⟩, hce, hcv, hcl, st⟩
  · cases hv
    obtain ⟨k1, k2, k3⟩ := vx_keep h0 e1 hS hA hf hL hF
    obtain ⟨t2, a1, b1⟩ := kk r u t T'.heap (locs ++ L) e1.symm (by rw [← e2]; exact X'.warmed.alike) hp hb k1 k2 k3 T' rfl X'
    exact ⟨t2, st t2 a1, b1⟩
  · obtain ⟨k1, k2, k3⟩ := vx_keep h0 e1 hS hAX hf hL hF
    obtain ⟨t2, a1, b1⟩ := kx E ce q u t T'.heap (locs ++ L) e1.symm (by rw [← e2]; exact X'.warmed.alike) hp hb k1 k2 k3 (by rw [e1]; exact hce) hcv hcl T' rfl X'
    exact ⟨t2, st.trans a1, b1⟩
theorem vx_callf {S SX : Type} {post : UInt32 → S → Prop} {px : SX → Prop} {B : S → State → Prop} {BX : String → SX → State → Prop} {AX : Nat → Prop} (hr : vx_Run p l e R s m args below meth c H locs cells slots mc ms (F0 m pc ls st0) rest (va_Qf post B A1 a) (vx_X px BX AX) free) (hS : va_S A0 H0 H locs) (hA : ∀ q, q < H.size → A1 q → A0 q) (hf : ∀ q, free q → A0 q) (hAX : ∀ q, q < H.size → AX q → A0 q)
    (kx : ∀ (E : String) (ce : Cell) (q9 : Addr) (u : SX) (t : State) (H1 : Heap) (locs1 : List Loc), t.heap = H1 → s.vm.Alike t.vm → px u → BX E u t → H.size ≤ H1.size → (∀ q : Nat, q < H.size → ¬ AX q → H1[q]? = H[q]?) → va_S A0 H0 H1 locs1 → H1[q9]? = some ce → ce.vm = .none → s.vm.findClass E = some ce.cls → vx_W p l e R s m args below meth c H1 locs1 (cells + mc) (slots + ms) Q (F0 m pc ls rest) q9)
    (kk : ∀ (r : UInt32) (u : S) (t : State) (H1 : Heap) (locs1 : List Loc), t.heap = H1 → s.vm.Alike t.vm → post r u → B u t → H.size ≤ H1.size → (∀ q : Nat, q < H.size → ¬ A1 q → H1[q]? = H[q]?) → va_S A0 H0 H1 locs1 → W p l e R s m args below meth c H1 locs1 (cells + mc) (slots + ms) Q (F0 m (pc + 3) ls (.float r :: rest))) : W p l e R s m args below meth c H locs cells slots Q (F0 m pc ls st0) := by
  intro T hT X
  rcases hr T hT X with ⟨v, st₀, t, T', L, h0, X', hL, e1, e2, ⟨⟨r, u, hv, hp, hb⟩, hF⟩, st⟩ | ⟨q, st₀, t, T', L, E, ce, h0, X', hL, e1, e2, ⟨u, hp, hb, hF⟩, hce, hcv, hcl, st⟩
  · cases hv
    obtain ⟨k1, k2, k3⟩ := vx_keep h0 e1 hS hA hf hL hF
    obtain ⟨t2, a1, b1⟩ := kk r u t T'.heap (locs ++ L) e1.symm (by rw [← e2]; exact X'.warmed.alike) hp hb k1 k2 k3 T' rfl X'
    exact ⟨t2, st t2 a1, b1⟩
  · obtain ⟨k1, k2, k3⟩ := vx_keep h0 e1 hS hAX hf hL hF
    obtain ⟨t2, a1, b1⟩ := kx E ce q u t T'.heap (locs ++ L) e1.symm (by rw [← e2]; exact X'.warmed.alike) hp hb k1 k2 k3 (by rw [e1]; exact hce) hcv hcl T' rfl X'
    exact ⟨t2, st.trans a1, b1⟩
theorem vx_calld {S SX : Type} {post : UInt64 → S → Prop} {px : SX → Prop} {B : S → State → Prop} {BX : String → SX → State → Prop} {AX : Nat → Prop} (hr : vx_Run p l e R s m args below meth c H locs cells slots mc ms (F0 m pc ls st0) rest (va_Qd post B A1 a) (vx_X px BX AX) free) (hS : va_S A0 H0 H locs) (hA : ∀ q, q < H.size → A1 q → A0 q) (hf : ∀ q, free q → A0 q) (hAX : ∀ q, q < H.size → AX q → A0 q)
    (kx : ∀ (E : String) (ce : Cell) (q9 : Addr) (u : SX) (t : State) (H1 : Heap) (locs1 : List Loc), t.heap = H1 → s.vm.Alike t.vm → px u → BX E u t → H.size ≤ H1.size → (∀ q : Nat, q < H.size → ¬ AX q → H1[q]? = H[q]?) → va_S A0 H0 H1 locs1 → H1[q9]? = some ce → ce.vm = .none → s.vm.findClass E = some ce.cls → vx_W p l e R s m args below meth c H1 locs1 (cells + mc) (slots + ms) Q (F0 m pc ls rest) q9)
    (kk : ∀ (r : UInt64) (u : S) (t : State) (H1 : Heap) (locs1 : List Loc), t.heap = H1 → s.vm.Alike t.vm → post r u → B u t → H.size ≤ H1.size → (∀ q : Nat, q < H.size → ¬ A1 q → H1[q]? = H[q]?) → va_S A0 H0 H1 locs1 → W p l e R s m args below meth c H1 locs1 (cells + mc) (slots + ms) Q (F0 m (pc + 3) ls (.double r :: rest))) : W p l e R s m args below meth c H locs cells slots Q (F0 m pc ls st0) := by
  intro T hT X
  rcases hr T hT X with ⟨v, st₀, t, T', L, h0, X', hL, e1, e2, ⟨⟨r, u, hv, hp, hb⟩, hF⟩, st⟩ | ⟨q, st₀, t, T', L, E, ce, h0, X', hL, e1, e2, ⟨u, hp, hb, hF⟩, hce, hcv, hcl, st⟩
  · cases hv
    obtain ⟨k1, k2, k3⟩ := vx_keep h0 e1 hS hA hf hL hF
    obtain ⟨t2, a1, b1⟩ := kk r u t T'.heap (locs ++ L) e1.symm (by rw [← e2]; exact X'.warmed.alike) hp hb k1 k2 k3 T' rfl X'
    exact ⟨t2, st t2 a1, b1⟩
  · obtain ⟨k1, k2, k3⟩ := vx_keep h0 e1 hS hAX hf hL hF
    obtain ⟨t2, a1, b1⟩ := kx E ce q u t T'.heap (locs ++ L) e1.symm (by rw [← e2]; exact X'.warmed.alike) hp hb k1 k2 k3 (by rw [e1]; exact hce) hcv hcl T' rfl X'
    exact ⟨t2, st.trans a1, b1⟩
theorem vx_callv {S SX : Type} {post : S → Prop} {px : SX → Prop} {B : S → State → Prop} {BX : String → SX → State → Prop} {AX : Nat → Prop} (hr : vx_Run p l e R s m args below meth c H locs cells slots mc ms (F0 m pc ls st0) rest (va_Qv post B A1 a) (vx_X px BX AX) free) (hS : va_S A0 H0 H locs) (hA : ∀ q, q < H.size → A1 q → A0 q) (hf : ∀ q, free q → A0 q) (hAX : ∀ q, q < H.size → AX q → A0 q)
    (kx : ∀ (E : String) (ce : Cell) (q9 : Addr) (u : SX) (t : State) (H1 : Heap) (locs1 : List Loc), t.heap = H1 → s.vm.Alike t.vm → px u → BX E u t → H.size ≤ H1.size → (∀ q : Nat, q < H.size → ¬ AX q → H1[q]? = H[q]?) → va_S A0 H0 H1 locs1 → H1[q9]? = some ce → ce.vm = .none → s.vm.findClass E = some ce.cls → vx_W p l e R s m args below meth c H1 locs1 (cells + mc) (slots + ms) Q (F0 m pc ls rest) q9)
    (kk : ∀ (u : S) (t : State) (H1 : Heap) (locs1 : List Loc), t.heap = H1 → s.vm.Alike t.vm → post u → B u t → H.size ≤ H1.size → (∀ q : Nat, q < H.size → ¬ A1 q → H1[q]? = H[q]?) → va_S A0 H0 H1 locs1 → W p l e R s m args below meth c H1 locs1 (cells + mc) (slots + ms) Q (F0 m (pc + 3) ls (rest))) : W p l e R s m args below meth c H locs cells slots Q (F0 m pc ls st0) := by
  intro T hT X
  rcases hr T hT X with ⟨v, st₀, t, T', L, h0, X', hL, e1, e2, ⟨⟨u, hv, hp, hb⟩, hF⟩, st⟩ | ⟨q, st₀, t, T', L, E, ce, h0, X', hL, e1, e2, ⟨u, hp, hb, hF⟩, hce, hcv, hcl, st⟩
  · cases hv
    obtain ⟨k1, k2, k3⟩ := vx_keep h0 e1 hS hA hf hL hF
    obtain ⟨t2, a1, b1⟩ := kk u t T'.heap (locs ++ L) e1.symm (by rw [← e2]; exact X'.warmed.alike) hp hb k1 k2 k3 T' rfl X'
    exact ⟨t2, st t2 a1, b1⟩
  · obtain ⟨k1, k2, k3⟩ := vx_keep h0 e1 hS hAX hf hL hF
    obtain ⟨t2, a1, b1⟩ := kx E ce q u t T'.heap (locs ++ L) e1.symm (by rw [← e2]; exact X'.warmed.alike) hp hb k1 k2 k3 (by rw [e1]; exact hce) hcv hcl T' rfl X'
    exact ⟨t2, st.trans a1, b1⟩
/-- caught by the row x of this method's table; the rows ahead don't take it -/
theorem vx_catch {own name : String} {E : String} {ce : Cell} {q : Addr} (hown : s.vm.findClass own = some m.cls) (pre : List ExceptionTableEntry) (x : ExceptionTableEntry) (suf : List ExceptionTableEntry) (hsplit : c.exceptionTable.toList = pre ++ x :: suf)
    (hpass : ∀ z ∈ pre, covers z pc = false ∨ (z.catchType ≠ 0 ∧ ∃ nm : String, (Cond.classLink own z.catchType nm).before args s = true ∧ va_Nc E nm s)) (hx : covers x pc = true) (h0 : x.catchType ≠ 0)
    (hlink : (Cond.classLink own x.catchType name).before args s = true) (hcast : (Cond.castable E name).before args s = true) (hcell : H[q]? = some ce) (hv : ce.vm = .none) (hcl : s.vm.findClass E = some ce.cls)
    (kk : W p l e R s m args below meth c H locs cells slots Q (F0 m x.handlerPc ls [.ref q])) : vx_W p l e R s m args below meth c H locs cells slots Q (F0 m pc ls rest) q := by
  intro T hT X
  have hpl : e.platform.magicAccessors = ({} : Platform).magicAccessors := by rw [X.admits.platform]
  obtain ⟨c3, c4, hc3, hc4, hasg⟩ := Cond.castable_spec hcast
  cases Option.some.inj (hc3.symm.trans hcl)
  obtain ⟨c5, hc5, hcl5⟩ := Cond.classLink_spec hown hlink e.platform hpl
  cases Option.some.inj (hc4.symm.trans hc5)
  obtain ⟨vm', X', st⟩ := X.thenCaughtThrough q (g := F0 m pc ls rest) rfl (Steps.refl _) (by rw [hT]; exact hcell) (by rw [hv]; rfl) (by obtain ⟨k9, h9, -⟩ := Vm.findClass_spec hcl; exact ⟨k9, h9⟩) pre x suf hsplit
    (fun z hz => by
      rcases hpass z hz with h | ⟨hz0, nm, hl1, hn1⟩
      · exact Or.inl h
      · obtain ⟨c6, hc6, hcl6⟩ := Cond.classLink_spec hown hl1 e.platform hpl
        obtain ⟨a8, b8, h1, h2, h3⟩ := hn1
        cases Option.some.inj (h1.symm.trans hcl)
        cases Option.some.inj (h2.symm.trans hc6)
        exact Or.inr ⟨hz0, _, hcl6, h3⟩) hx (Or.inr ⟨h0, c4, hcl5, hasg⟩)
  obtain ⟨t, a1, b1⟩ := kk (T.setVm vm') hT X'
  exact ⟨t, st.trans a1, b1⟩
end Rows
section Ends
variable {p : Program} {l : Launch} {e : Env} {R : Room} {s : State} {m : MethodId} {args : Array Value} {below : List Frame} {meth : Method} {c : Code} {H : Heap} {locs : List Loc} {cells slots : Nat} {Q : State → Prop}
variable {mc ms : Nat} {free : Addr → Prop} {A0 A1 : Nat → Prop} {H0 : Heap} {a : Array Value} {ls : Array Slot} {st0 rest : List Value}
variable {Qc : Array Value → State → Outcome → State → Prop} {XC : String → State → State → Prop}
/-- what a body that may throw owes at its end -/
def vx_MQ (below : List Frame) (Qc : Array Value → State → Outcome → State → Prop) (XC : String → State → State → Prop) (a : Array Value) (s : State) (mc ms : Nat) (free : Addr → Prop) : State → Prop := fun t =>
  ∃ o, t.status = .running ∧ Ended t below o ∧ vx_Q Qc XC mc ms free a s o t
theorem vx_ret {g : JFrame} {mc ms : Nat} (k : W p l e R s m args below meth c H locs cells slots (MQ below Qc args s mc ms free) g) : W p l e R s m args below meth c H locs cells slots (vx_MQ below Qc XC args s mc ms free) g := by
  intro T hT X
  obtain ⟨t, a1, o, b1, b2, b3, b4⟩ := k T hT X
  exact ⟨t, a1, o, b1, b2, Or.inl ⟨b3, b4⟩⟩
/-- not caught here: it goes on to the caller -/
theorem vx_widen {g : JFrame} {q : Addr} {k n : Nat} (h1 : cells ≤ k) (h2 : slots ≤ n) (kk : vx_W p l e R s m args below meth c H locs k n Q g q) : vx_W p l e R s m args below meth c H locs cells slots Q g q := fun T hT X => kk T hT (stand_widen X h1 h2)
theorem vx_out {pc : Nat} {E : String} {ce : Cell} {q : Addr} {mc ms : Nat} (hout : ∀ x ∈ c.exceptionTable.toList, covers x pc = false) (hlocks : meth.locks = false) (hcell : H[q]? = some ce) (hv : ce.vm = .none) (hcl : s.vm.findClass E = some ce.cls)
    (hx : ∀ t : State, t.heap = H → s.vm.Alike t.vm → XC E s t) (hf : ∀ z ∈ locs, free z.base) (hc : cells ≤ mc) (hs : slots ≤ ms) :
    vx_W p l e R s m args below meth c H locs cells slots (vx_MQ below Qc XC args s mc ms free) (F0 m pc ls rest) q := by
  intro T hT X
  obtain ⟨st1, hrun, hend, hW, hsm⟩ := X.leaveThrown q (g := F0 m pc ls rest) rfl rfl rfl hout hlocks
  have hcell9 : (T.setFrames (.throwing q :: below)).heap[q]? = some ce := by
    show T.heap[q]? = some ce
    rw [hT]; exact hcell
  exact ⟨_, st1, .threw q, hrun, hend, Or.inr ⟨q, rfl, E, ce, locs, hx _ hT hW.alike, hcell9, hv, hcl, hW, hsm.mono hc hs, hf⟩⟩
theorem vx_frame {U : State} {k n : Nat} (h : s.sameButNew ({ U with vm := s.vm } : State) locs k n) : s.heap.size ≤ U.heap.size ∧ ∀ q : Nat, q < s.heap.size → (∀ z ∈ locs, z.base ≠ q) → U.heap[q]? = s.heap[q]? := by
  obtain ⟨-, h2, -, -, -, h6⟩ := h
  refine ⟨h2, fun q hq hz => ?_⟩
  obtain ⟨c9, e1, e2, e3, e4⟩ := h6 q _ (Array.getElem?_eq_getElem hq)
  have hs : c9.slots = (s.heap[q]).slots := Array.ext_getElem? fun i => e4 i fun hm => hz _ hm rfl
  have h9 : c9 = s.heap[q] := by
    rw [hs] at e2
    exact e2
  have e5 : U.heap[q]? = some c9 := e1
  rw [e5, h9, Array.getElem?_eq_getElem hq]
/-- the words of a throw but the four that speak of the heap -/
def vx_no (w : Cond) : Bool := decide (w ≠ .isRef (.static Bundle.tN "UNASSIGNED_STACK" Bundle.steD)) && decide (w ≠ .isRef (.static Bundle.tN "SUPPRESSED_SENTINEL" Bundle.listD)) && decide (w ≠ .laysStatic Bundle.tN "UNASSIGNED_STACK" Bundle.steD) && decide (w ≠ .laysStatic Bundle.tN "SUPPRESSED_SENTINEL" Bundle.listD)
def vx_at0 (own : String) (ic : Nat) (X : String) (names : List String) : List Cond := (Bundle.ownAtoms0 own ic X names).filter vx_no
def vx_atS (own : String) (ic : Nat) (X : String) (names : List String) : List Cond := (Bundle.ownAtoms own ic X names).filter vx_no
/-- a word that the tables alone decide, or a good one -/
def vx_ot (w : Cond) : Bool := w.onTables || goodWord w
theorem vx_ot_at {args a' : Array Value} {s U : State} {w : Cond} (hW : s.WarmedH U.vm) (hvm : s.vm = U.vm) (hg : vx_ot w = true) (h : w.before args s = true) : w.before a' U = true := by
  simp only [vx_ot, Bool.or_eq_true] at hg
  rcases hg with hg | hg
  · exact va_tabs hg hvm h
  · exact word_at hW (good_of_word hg) h
/-- a list's words: the good ones out of the method's own list, the others by premises of their own -/
theorem vx_hat {args : Array Value} {s : State} {L B : List Cond} (h1 : ∀ w ∈ L.filter goodWord, w.before args s = true) (h2 : ∀ w ∈ L.filter (fun w => !goodWord w), w ∈ B) (h3 : ∀ w ∈ B, w.before args s = true) : ∀ w ∈ L, w.before args s = true := by
  intro w hw
  by_cases g : goodWord w = true
  · exact h1 w (List.mem_filter.mpr ⟨hw, g⟩)
  · refine h3 w (h2 w (List.mem_filter.mpr ⟨hw, ?_⟩))
    show (!goodWord w) = true
    cases hgw : goodWord w
    · rfl
    · exact absurd hgw g
theorem vx_c {args : Array Value} {s : State} {w : Cond} {B : List Cond} (h : w.before args s = true) (t : ∀ w ∈ B, w.before args s = true) : ∀ w' ∈ w :: B, w'.before args s = true := fun w' h' => (List.mem_cons.mp h').elim (fun e => by rw [e]; exact h) (t w')
theorem vx_n {args : Array Value} {s : State} : ∀ w ∈ ([] : List Cond), w.before args s = true := fun _ h => nomatch h
theorem vx_own {args : Array Value} {s : State} {L : List Cond} (h1 : ∀ w ∈ L.filter vx_no, w.before args s = true)
    (hU : (Cond.isRef (.static Bundle.tN "UNASSIGNED_STACK" Bundle.steD)).before args s = true) (hN : (Cond.isRef (.static Bundle.tN "SUPPRESSED_SENTINEL" Bundle.listD)).before args s = true)
    (lU : (Cond.laysStatic Bundle.tN "UNASSIGNED_STACK" Bundle.steD).before args s = true) (lN : (Cond.laysStatic Bundle.tN "SUPPRESSED_SENTINEL" Bundle.listD).before args s = true) : ∀ w ∈ L, w.before args s = true := by
  intro w hw
  by_cases e1 : w = .isRef (.static Bundle.tN "UNASSIGNED_STACK" Bundle.steD)
  · rw [e1]; exact hU
  · by_cases e2 : w = .isRef (.static Bundle.tN "SUPPRESSED_SENTINEL" Bundle.listD)
    · rw [e2]; exact hN
    · by_cases e3 : w = .laysStatic Bundle.tN "UNASSIGNED_STACK" Bundle.steD
      · rw [e3]; exact lU
      · by_cases e4 : w = .laysStatic Bundle.tN "SUPPRESSED_SENTINEL" Bundle.listD
        · rw [e4]; exact lN
        · exact h1 w (List.mem_filter.mpr ⟨hw, by unfold vx_no; rw [decide_eq_true e1, decide_eq_true e2, decide_eq_true e3, decide_eq_true e4]; rfl⟩)
/-- where a static field lies, its class's statics cell in H -/
def vx_L (C n d : String) (A : Nat → Prop) (U : State) (H : Heap) : Prop := ∃ (c : ClassId) (k : Class) (i : Nat) (f : Field) (a : Nat) (cell : Cell), U.vm.findClass C = some c ∧ U.fieldFound? C n d = some (c, k, i, f) ∧ f.isStatic = true ∧ k.statics = some a ∧ H[a]? = some cell ∧ cell.vm.isStatics = true ∧ cell.cls = c ∧ f.slot < cell.slots.size ∧ k.staticTypes[f.slot]? = some f.type ∧ ¬ A a
theorem vx_L.moved {C n d : String} {A : Nat → Prop} {u U : State} {H : Heap} (hvm : u.vm.Alike U.vm) (h : vx_L C n d A u H) : vx_L C n d A U H := by
  obtain ⟨c, k, i, f, a, cell, h1, h2, h3, h4, h5, h6, h7, h8, h9, h10⟩ := h
  obtain ⟨k', hi', he⟩ := State.fieldFound?_setVm hvm h2
  exact ⟨c, k', i, f, a, cell, by rw [hvm.findClass]; exact h1, hi', h3, by rw [he]; exact h4, h5, h6, h7, h8, by rw [he]; exact h9, h10⟩
theorem vx_L.kept {C n d : String} {A : Nat → Prop} {U : State} {H H1 : Heap} (h : vx_L C n d A U H) (hq : ∀ a : Nat, a < H.size → ¬ A a → H1[a]? = H[a]?) : vx_L C n d A U H1 := by
  obtain ⟨c, k, i, f, a, cell, h1, h2, h3, h4, h5, h6, h7, h8, h9, h10⟩ := h
  exact ⟨c, k, i, f, a, cell, h1, h2, h3, h4, by rw [hq a (Array.getElem?_eq_some_iff.mp h5).1 h10]; exact h5, h6, h7, h8, h9, h10⟩
theorem vx_L.narrow {C n d : String} {A B : Nat → Prop} {U : State} {H : Heap} (h : vx_L C n d A U H) (hAB : ∀ q, B q → A q) : vx_L C n d B U H := by
  obtain ⟨c, k, i, f, a, cell, h1, h2, h3, h4, h5, h6, h7, h8, h9, h10⟩ := h
  exact ⟨c, k, i, f, a, cell, h1, h2, h3, h4, h5, h6, h7, h8, h9, fun z => h10 (hAB _ z)⟩
theorem vx_L.word {C n d : String} {A : Nat → Prop} {s : State} {args : Array Value} (h : vx_L C n d A s s.heap) : (Cond.laysStatic C n d).before args s = true := by
  obtain ⟨c, k, i, f, a, cell, h1, h2, h3, h4, h5, h6, h7, h8, h9, -⟩ := h
  show (Cond.laysStatic C n d).holds args s none s [] = true
  exact Cond.laysStatic_of h1 h2 h3 h4 h5 h6 h7 h8 h9
/-- .. and what it holds: null or some reference -/
def vx_Zq (C n d : String) (A : Nat → Prop) (U : State) (H : Heap) : Prop := va_Zq C n d A U H ∧ vx_L C n d A U H
theorem vx_Zq.moved {C n d : String} {A : Nat → Prop} {u U : State} {H : Heap} (hvm : u.vm.Alike U.vm) (h : vx_Zq C n d A u H) : vx_Zq C n d A U H := ⟨va_Zq.moved hvm h.1, vx_L.moved hvm h.2⟩
theorem vx_Zq.kept {C n d : String} {A : Nat → Prop} {U : State} {H H1 : Heap} (h : vx_Zq C n d A U H) (hq : ∀ a : Nat, a < H.size → ¬ A a → H1[a]? = H[a]?) : vx_Zq C n d A U H1 := ⟨va_Zq.kept h.1 hq, vx_L.kept h.2 hq⟩
theorem vx_Zq.narrow {C n d : String} {A B : Nat → Prop} {U : State} {H : Heap} (h : vx_Zq C n d A U H) (hAB : ∀ q, B q → A q) : vx_Zq C n d B U H := ⟨va_Zq.narrow h.1 hAB, vx_L.narrow h.2 hAB⟩
theorem vx_Zqof {args : Array Value} {s : State} {C n d : String} {A : Nat → Prop} (hl : (Cond.laysStatic C n d).before args s = true) (hini : (Cond.initialized C).before args s = true) (h : (Cond.isRef (.static C n d)).before args s = true) (hA : ∀ a : Nat, a < s.heap.size → ¬ A a) : vx_Zq C n d A s s.heap := by
  refine ⟨va_Zqof hl hini h hA, ?_⟩
  obtain ⟨c, k, i, f, a, cell, h1, h2, h3, h4, h5, h6, h7, h8, h9⟩ := Cond.laysStatic_spec hl
  exact ⟨c, k, i, f, a, cell, h1, h2, h3, h4, h5, h6, h7, h8, h9, hA a (Array.getElem?_eq_some_iff.mp h5).1⟩
theorem vx_isRef {C n d : String} {v : Value} {A : Nat → Prop} {s : State} {args : Array Value} (h : va_Z C n d v A s s.heap) (hv : v.isRef = true) : (Cond.isRef (.static C n d)).before args s = true := by
  obtain ⟨cf, kf, fi, f, a, cell, h1, h2, h3, h4, h5, h6, h7, -⟩ := h
  have he : (Term.static C n d).eval args s none [] s = some v := by
    simp [Term.eval, State.fieldNamed?, h1, h2, h4, h5, h6, h7]
  simp only [Cond.before, Cond.holds, Cond.value, he]
  cases v <;> simp_all [Value.isRef]
theorem vx_isRefq {C n d : String} {A : Nat → Prop} {s : State} {args : Array Value} (h : va_Zq C n d A s s.heap) : (Cond.isRef (.static C n d)).before args s = true := by
  rcases h with h | ⟨t, h⟩
  · exact vx_isRef h rfl
  · exact vx_isRef h rfl
/-- the same frame, seen from here: as if the method were called anew in this heap -/
theorem vx_rebase {T : State} (X : Stand p l e R s m args below meth c T locs cells slots) {R' : Room} (hf : R'.frames ≤ R.frames) (hl : R'.locals ≤ R.locals) (hc : cells + R'.cells ≤ R.cells) (hs : slots + R'.slots ≤ R.slots) :
    Stand p l e R' ((T.setVm s.vm).setFrames (.invoking m args :: below)) m args below meth c T [] 0 0 := by
  have htop : (T.setVm s.vm).topJava?.isSome := X.here.top
  have hF : ((T.setVm s.vm).setFrames (.invoking m args :: below)).frames = .invoking m args :: below := State.frames_setFrames _ (State.cur_lt_of_top htop)
  obtain ⟨g₀, hg0⟩ := Option.isSome_iff_exists.mp htop
  obtain ⟨r, hr⟩ := State.topJava?_eq_some.mp hg0
  have hl9 : e.platform.stackLimits (T.setVm s.vm).me = e.platform.stackLimits s.me := X.limits
  have hb9 : (T.setVm s.vm).me.stackBytes = s.me.stackBytes := X.bytes
  refine ⟨X.admits, X.cas, X.clock, hF, ?_, X.hears, X.method, X.code, X.here, X.tail, X.warmed, ?_, ?_, ?_⟩
  · have h := X.room
    have hU : ((T.setVm s.vm).setFrames (.invoking m args :: below)).localsInUse = s.localsInUse := by
      rw [State.localsInUse_invoking hF (meth := meth) (c := c) X.method X.code, State.localsInUse_invoking X.frames X.method X.code]
    simp only [State.hasRoom, Bool.and_eq_true, decide_eq_true_eq] at h ⊢
    obtain ⟨⟨⟨⟨h1, h2, h3, h4, h5, h6⟩, h7⟩, h8⟩, h9⟩ := h
    rw [X.frames, List.length_cons] at h2 h3
    have q1 := X.heapSize
    have q2 := X.used
    simp only [hF, hU, List.length_cons, State.stackLimits_setFrames, State.stackBytes_setFrames, hl9, hb9]
    refine ⟨⟨⟨⟨by omega, by omega, by omega, by omega, by omega, h6⟩, ?_⟩, ?_⟩, X.book⟩
    · show T.heap.size + R'.cells ≤ e.platform.maxCells
      omega
    · show T.slotsUsed + R'.slots ≤ e.platform.maxSlots
      omega
  · rw [State.stackLimits_setFrames]; rfl
  · rw [State.stackBytes_setFrames]; rfl
  · refine ⟨?_, Nat.le_refl _, Nat.le_refl _, ?_, ?_, fun a c9 h9 => ⟨c9, h9, rfl, rfl, fun _ _ => rfl⟩⟩
    · obtain ⟨t, ht, -⟩ := State.frames_cons hr
      show T.setVm s.vm = { ((T.setVm s.vm).setFrames (.invoking m args :: below)).setFrames (T.setVm s.vm).frames with heap := T.heap, slotsUsed := T.slotsUsed }
      rw [State.setFrames_setFrames, State.setFrames_self ht]
      rfl
    · show T.slotsUsed = T.slotsUsed + ((T.heap.toList.drop T.heap.size).map (·.slots.size)).sum
      rw [List.drop_eq_nil_of_le (Nat.le_of_eq Array.length_toList)]
      rfl
    · show ((T.heap.toList.drop T.heap.size).map (·.slots.size)).sum ≤ 0
      rw [List.drop_eq_nil_of_le (Nat.le_of_eq Array.length_toList)]
      exact Nat.le_refl _
/-- 'throw new E()': new; dup; invokespecial; athrow -/
theorem vx_throw0 {cc : ByteArray} {pc : Nat} (hexec : p.tables.exec = Jvm.exec) (hb : c.code = cc) (hl : l.stackTraces = false) {own cls : String} {names : List String} {ik ic mc ms : Nat} {A : Nat → Prop}
    (hown : s.vm.findClass own = some m.cls) (hcls : Bundle.fit cls = true) (hnames : ∀ n ∈ names, Bundle.fit n = true)
    (hk : (Cond.classLink own ik cls).before args s = true) (hini : (Cond.initialized cls).before args s = true) (hat : ∀ w ∈ vx_at0 own ic cls names, w.before args s = true)
    (hgood : ∀ w ∈ Cond.classLink own ik cls :: Cond.initialized cls :: vx_at0 own ic cls names, vx_ot w = true)
    (hU : vx_Zq Bundle.tN "UNASSIGNED_STACK" Bundle.steD A s s.heap) (hN : vx_Zq Bundle.tN "SUPPRESSED_SENTINEL" Bundle.listD A s s.heap) (hS : va_S A s.heap H locs) (hsize : ls.size = c.maxLocals)
    (d0 : decode cc pc = .ok (.new ik, 3)) (d3 : decode cc (pc + 3) = .ok (.dup, 1)) (d4 : decode cc (pc + 4) = .ok (.invokespecial ic, 3)) (d7 : decode cc (pc + 7) = .ok (.athrow, 1))
    (hout : ∀ x ∈ c.exceptionTable.toList, covers x (pc + 7) = false)
    (hRframes : names.length + 3 < R.frames) (hRlocals : (rest.map fun v => v.category).sum + (13 * (names.length + 1) + 42) ≤ R.locals) (hRcells : cells + 1 ≤ R.cells) (hRslots : slots + 6 ≤ R.slots) (hlocks : meth.locks = false)
    (hx : ∀ t : State, s.vm.Alike t.vm → H.size ≤ t.heap.size → (∀ q : Nat, q < H.size → t.heap[q]? = H[q]?) → XC cls s t)
    (hf : ∀ z ∈ locs, free z.base) (hc : cells + 1 ≤ mc) (hs : slots + 6 ≤ ms) :
    W p l e R s m args below meth c H locs cells slots (vx_MQ below Qc XC args s mc ms free) (F0 m pc ls rest) := by
  intro T hT X
  have htr : e.platform.stackTraces = false := (show e.platform.stackTraces = l.stackTraces by rw [X.admits.platform]).trans hl
  have Y := vx_rebase X (R' := { frames := R.frames, locals := R.locals, cells := 1, slots := 6 }) (Nat.le_refl _) (Nat.le_refl _) hRcells hRslots
  obtain ⟨s', hA⟩ : ∃ z, z = (T.setVm s.vm).setFrames (.invoking m args :: below) := ⟨_, rfl⟩
  rw [← hA] at Y
  have hvm : s'.vm = s.vm := by rw [hA]; rfl
  have hhp : s'.heap = H := by rw [hA]; exact hT
  have hW0 : s.WarmedH s'.vm := by rw [hvm]; exact State.WarmedH.refl s
  have hat' : ∀ w ∈ vx_at0 own ic cls names, w.before args s' = true := fun w hw => vx_ot_at hW0 hvm.symm (hgood w (List.mem_cons_of_mem _ (List.mem_cons_of_mem _ hw))) (hat w hw)
  have hk' : (Cond.classLink own ik cls).before args s' = true := vx_ot_at hW0 hvm.symm (hgood _ List.mem_cons_self) hk
  have hini' : (Cond.initialized cls).before args s' = true := vx_ot_at hW0 hvm.symm (hgood _ (List.mem_cons_of_mem _ List.mem_cons_self)) hini
  have hU' : vx_Zq Bundle.tN "UNASSIGNED_STACK" Bundle.steD A s' s'.heap := by rw [hhp]; exact vx_Zq.moved hW0.alike (hU.kept hS.2.1)
  have hN' : vx_Zq Bundle.tN "SUPPRESSED_SENTINEL" Bundle.listD A s' s'.heap := by rw [hhp]; exact vx_Zq.moved hW0.alike (hN.kept hS.2.1)
  have h : ∀ w ∈ Bundle.ownAtoms0 own ic cls names, w.before args s' = true := vx_own hat' (vx_isRefq hU'.1) (vx_isRefq hN'.1) hU'.2.word hN'.2.word
  have hown' : s'.vm.findClass own = some m.cls := by rw [hvm]; exact hown
  have hins : (Cond.instantiable cls 6).before args s' = true := h _ (by simp [Bundle.ownAtoms0])
  obtain ⟨vm₁, cX, kX, hfX, hkX, -, -, X₁, st1⟩ := Y.newCold hexec (own := own) (C := cls) (index := ik) (n := 6) hown' hk' hins hini'
    (g := F0 m pc ls rest) rfl (by rw [hb]; exact d0) (Nat.le_refl _) (Nat.le_refl _)
  generalize hT1 : (T.setVm vm₁).pushCell { cls := cX, slots := kX.instanceTypes.map defaultValue, vm := .none } = T1 at X₁ st1
  have hcat : (Value.ref T.heap.size).category = 1 := rfl
  have hcellA : T1.heap[T.heap.size]? = some (freshCell cX kX) := by rw [← hT1]; exact State.heap_pushCell_size _ _
  have d3' : decode c.code (pc + 3) = .ok (.dup, 1) := by rw [hb]; exact d3
  obtain ⟨U, hsteps, hrun, hend, hW, hsame, ce, hce, hO⟩ := X₁.ctorThrow0 hexec htr (own := own) (cls := cls) (names := names) (ic := ic) hown' hcls hnames h (fun x hx => nomatch hx) hfX hkX hcellA (by rw [hhp, hT]; exact Nat.le_refl _)
    (g := { method := m, pc := pc + 4, locals := ls, stack := .ref T.heap.size :: .ref T.heap.size :: rest, locked := none }) rfl hsize rfl rfl (rest := rest) rfl
    (by rw [hb]; exact d4) (by rw [hb]; exact d7) hout hRframes (by simp only [List.map_cons, List.sum_cons, hcat]; omega) hlocks
  obtain ⟨f1, f2⟩ := vx_frame hsame
  rw [hhp] at f1 f2
  have hWs : s.WarmedH U.vm := State.WarmedH.trans hW0 hW
  have hcl : s.vm.findClass cls = some ce.cls := by
    have h9 := hO.cls
    rw [hvm] at h9
    exact h9
  have hall : s.sameButNew ({ U with vm := s.vm } : State) locs mc ms := by
    subst hA
    obtain ⟨e1, e2⟩ := hsame
    rw [State.setFrames_setFrames] at e1
    have h2 : (T.setVm s.vm).sameButNew ({ U with vm := s.vm } : State) [] (0 + 1) (0 + 6) := ⟨e1, e2⟩
    have h3 := X.same.trans h2
    rw [List.append_nil] at h3
    exact h3.mono hc hs
  refine ⟨U, ?_, .threw T.heap.size, hrun, hend, Or.inr ⟨T.heap.size, rfl, cls, ce, locs, hx U hWs.alike f1 (fun q hq => f2 q hq (fun z hz => nomatch hz)), hce, hO.vm, hcl, hWs, hall, hf⟩⟩
  refine st1 _ ?_
  show Steps p.tables e below (T1.setTop { method := m, pc := pc + 3, locals := ls, stack := .ref T.heap.size :: rest, locked := none }) _
  jvm_step X₁.here [X₁.here.top, hexec, d3', Value.category]
  exact hsteps
/-- 'throw new E("text")': new; dup; ldc; invokespecial; athrow -/
theorem vx_throwS {cc : ByteArray} {pc : Nat} (hexec : p.tables.exec = Jvm.exec) (hb : c.code = cc) (hl : l.stackTraces = false) {own cls text : String} {names : List String} {ik is ic mc ms sa : Nat} {A : Nat → Prop}
    (hown : s.vm.findClass own = some m.cls) (hcls : Bundle.fit cls = true) (hnames : ∀ n ∈ names, Bundle.fit n = true)
    (hk : (Cond.classLink own ik cls).before args s = true) (hini : (Cond.initialized cls).before args s = true) (hstr : vk_R own is text sa s) (hat : ∀ w ∈ vx_atS own ic cls names, w.before args s = true)
    (hgood : ∀ w ∈ Cond.classLink own ik cls :: Cond.initialized cls :: vx_atS own ic cls names, vx_ot w = true)
    (hU : vx_Zq Bundle.tN "UNASSIGNED_STACK" Bundle.steD A s s.heap) (hN : vx_Zq Bundle.tN "SUPPRESSED_SENTINEL" Bundle.listD A s s.heap) (hS : va_S A s.heap H locs) (hsize : ls.size = c.maxLocals)
    (d0 : decode cc pc = .ok (.new ik, 3)) (d3 : decode cc (pc + 3) = .ok (.dup, 1)) (d4 : decode cc (pc + 4) = .ok (.ldc is, 2)) (d6 : decode cc (pc + 6) = .ok (.invokespecial ic, 3)) (d9 : decode cc (pc + 9) = .ok (.athrow, 1))
    (hout : ∀ x ∈ c.exceptionTable.toList, covers x (pc + 9) = false)
    (hRframes : names.length + 3 < R.frames) (hRlocals : (rest.map fun v => v.category).sum + (13 * (names.length + 1) + 43) ≤ R.locals) (hRcells : cells + 1 ≤ R.cells) (hRslots : slots + 6 ≤ R.slots) (hlocks : meth.locks = false)
    (hx : ∀ t : State, s.vm.Alike t.vm → H.size ≤ t.heap.size → (∀ q : Nat, q < H.size → t.heap[q]? = H[q]?) → XC cls s t)
    (hf : ∀ z ∈ locs, free z.base) (hc : cells + 1 ≤ mc) (hs : slots + 6 ≤ ms) :
    W p l e R s m args below meth c H locs cells slots (vx_MQ below Qc XC args s mc ms free) (F0 m pc ls rest) := by
  intro T hT X
  have htr : e.platform.stackTraces = false := (show e.platform.stackTraces = l.stackTraces by rw [X.admits.platform]).trans hl
  have Y := vx_rebase X (R' := { frames := R.frames, locals := R.locals, cells := 1, slots := 6 }) (Nat.le_refl _) (Nat.le_refl _) hRcells hRslots
  obtain ⟨s', hA⟩ : ∃ z, z = (T.setVm s.vm).setFrames (.invoking m args :: below) := ⟨_, rfl⟩
  rw [← hA] at Y
  have hvm : s'.vm = s.vm := by rw [hA]; rfl
  have hhp : s'.heap = H := by rw [hA]; exact hT
  have hW0 : s.WarmedH s'.vm := by rw [hvm]; exact State.WarmedH.refl s
  have hat' : ∀ w ∈ vx_atS own ic cls names, w.before args s' = true := fun w hw => vx_ot_at hW0 hvm.symm (hgood w (List.mem_cons_of_mem _ (List.mem_cons_of_mem _ hw))) (hat w hw)
  have hk' : (Cond.classLink own ik cls).before args s' = true := vx_ot_at hW0 hvm.symm (hgood _ List.mem_cons_self) hk
  have hini' : (Cond.initialized cls).before args s' = true := vx_ot_at hW0 hvm.symm (hgood _ (List.mem_cons_of_mem _ List.mem_cons_self)) hini
  have hU' : vx_Zq Bundle.tN "UNASSIGNED_STACK" Bundle.steD A s' s'.heap := by rw [hhp]; exact vx_Zq.moved hW0.alike (hU.kept hS.2.1)
  have hN' : vx_Zq Bundle.tN "SUPPRESSED_SENTINEL" Bundle.listD A s' s'.heap := by rw [hhp]; exact vx_Zq.moved hW0.alike (hN.kept hS.2.1)
  have h : ∀ w ∈ Bundle.ownAtoms own ic cls names, w.before args s' = true := vx_own hat' (vx_isRefq hU'.1) (vx_isRefq hN'.1) hU'.2.word hN'.2.word
  have hown' : s'.vm.findClass own = some m.cls := by rw [hvm]; exact hown
  have hins : (Cond.instantiable cls 6).before args s' = true := h _ (by simp [Bundle.ownAtoms])
  obtain ⟨vm₁, cX, kX, hfX, hkX, -, -, X₁, st1⟩ := Y.newCold hexec (own := own) (C := cls) (index := ik) (n := 6) hown' hk' hins hini'
    (g := F0 m pc ls rest) rfl (by rw [hb]; exact d0) (Nat.le_refl _) (Nat.le_refl _)
  generalize hT1 : (T.setVm vm₁).pushCell { cls := cX, slots := kX.instanceTypes.map defaultValue, vm := .none } = T1 at X₁ st1
  have hcat : (Value.ref T.heap.size).category = 1 := rfl
  have hcellA : T1.heap[T.heap.size]? = some (freshCell cX kX) := by rw [← hT1]; exact State.heap_pushCell_size _ _
  have d3' : decode c.code (pc + 3) = .ok (.dup, 1) := by rw [hb]; exact d3
  have d4' : decode c.code (pc + 4) = .ok (.ldc is, 2) := by rw [hb]; exact d4
  have hstr' : vk_R own is text sa s' := vk_R.warm hW0 hstr
  obtain ⟨U, hsteps, hrun, hend, hW, hsame, ce, hce, hO⟩ := X₁.ctorThrowS hexec htr (own := own) (cls := cls) (names := names) (ic := ic) hown' hcls hnames h (fun x hx => nomatch hx) hfX hkX hcellA (by rw [hhp, hT]; exact Nat.le_refl _) (msg := .ref sa) rfl
    (g := { method := m, pc := pc + 6, locals := ls, stack := .ref sa :: .ref T.heap.size :: .ref T.heap.size :: rest, locked := none }) rfl hsize rfl rfl (rest := rest) rfl
    (by rw [hb]; exact d6) (by rw [hb]; exact d9) hout hRframes (by simp only [List.map_cons, List.sum_cons, hcat]; omega) hlocks
  obtain ⟨f1, f2⟩ := vx_frame hsame
  rw [hhp] at f1 f2
  have hWs : s.WarmedH U.vm := State.WarmedH.trans hW0 hW
  have hcl : s.vm.findClass cls = some ce.cls := by
    have h9 := hO.cls
    rw [hvm] at h9
    exact h9
  have hall : s.sameButNew ({ U with vm := s.vm } : State) locs mc ms := by
    subst hA
    obtain ⟨e1, e2⟩ := hsame
    rw [State.setFrames_setFrames] at e1
    have h2 : (T.setVm s.vm).sameButNew ({ U with vm := s.vm } : State) [] (0 + 1) (0 + 6) := ⟨e1, e2⟩
    have h3 := X.same.trans h2
    rw [List.append_nil] at h3
    exact h3.mono hc hs
  refine ⟨U, ?_, .threw T.heap.size, hrun, hend, Or.inr ⟨T.heap.size, rfl, cls, ce, locs, hx U hWs.alike f1 (fun q hq => f2 q hq (fun z hz => nomatch hz)), hce, hO.vm, hcl, hWs, hall, hf⟩⟩
  refine st1 _ ?_
  show Steps p.tables e below (T1.setTop { method := m, pc := pc + 3, locals := ls, stack := .ref T.heap.size :: rest, locked := none }) _
  jvm_step X₁.here [X₁.here.top, hexec, d3', Value.category]
  exact X₁.ldcString hexec (own := own) (text := text) (index := is) (a := sa) hown' hstr'.1 hstr'.2
    (g := { method := m, pc := pc + 4, locals := ls, stack := .ref T.heap.size :: .ref T.heap.size :: rest, locked := none }) rfl d4' _ hsteps
/-- 'throw new E("text")', the text by a wide index -/
theorem vx_throwSW {cc : ByteArray} {pc : Nat} (hexec : p.tables.exec = Jvm.exec) (hb : c.code = cc) (hl : l.stackTraces = false) {own cls text : String} {names : List String} {ik is ic mc ms sa : Nat} {A : Nat → Prop}
    (hown : s.vm.findClass own = some m.cls) (hcls : Bundle.fit cls = true) (hnames : ∀ n ∈ names, Bundle.fit n = true)
    (hk : (Cond.classLink own ik cls).before args s = true) (hini : (Cond.initialized cls).before args s = true) (hstr : vk_R own is text sa s) (hat : ∀ w ∈ vx_atS own ic cls names, w.before args s = true)
    (hgood : ∀ w ∈ Cond.classLink own ik cls :: Cond.initialized cls :: vx_atS own ic cls names, vx_ot w = true)
    (hU : vx_Zq Bundle.tN "UNASSIGNED_STACK" Bundle.steD A s s.heap) (hN : vx_Zq Bundle.tN "SUPPRESSED_SENTINEL" Bundle.listD A s s.heap) (hS : va_S A s.heap H locs) (hsize : ls.size = c.maxLocals)
    (d0 : decode cc pc = .ok (.new ik, 3)) (d3 : decode cc (pc + 3) = .ok (.dup, 1)) (d4 : decode cc (pc + 4) = .ok (.ldc_w is, 3)) (d7 : decode cc (pc + 7) = .ok (.invokespecial ic, 3)) (d10 : decode cc (pc + 10) = .ok (.athrow, 1))
    (hout : ∀ x ∈ c.exceptionTable.toList, covers x (pc + 10) = false)
    (hRframes : names.length + 3 < R.frames) (hRlocals : (rest.map fun v => v.category).sum + (13 * (names.length + 1) + 43) ≤ R.locals) (hRcells : cells + 1 ≤ R.cells) (hRslots : slots + 6 ≤ R.slots) (hlocks : meth.locks = false)
    (hx : ∀ t : State, s.vm.Alike t.vm → H.size ≤ t.heap.size → (∀ q : Nat, q < H.size → t.heap[q]? = H[q]?) → XC cls s t)
    (hf : ∀ z ∈ locs, free z.base) (hc : cells + 1 ≤ mc) (hs : slots + 6 ≤ ms) :
    W p l e R s m args below meth c H locs cells slots (vx_MQ below Qc XC args s mc ms free) (F0 m pc ls rest) := by
  intro T hT X
  have htr : e.platform.stackTraces = false := (show e.platform.stackTraces = l.stackTraces by rw [X.admits.platform]).trans hl
  have Y := vx_rebase X (R' := { frames := R.frames, locals := R.locals, cells := 1, slots := 6 }) (Nat.le_refl _) (Nat.le_refl _) hRcells hRslots
  obtain ⟨s', hA⟩ : ∃ z, z = (T.setVm s.vm).setFrames (.invoking m args :: below) := ⟨_, rfl⟩
  rw [← hA] at Y
  have hvm : s'.vm = s.vm := by rw [hA]; rfl
  have hhp : s'.heap = H := by rw [hA]; exact hT
  have hW0 : s.WarmedH s'.vm := by rw [hvm]; exact State.WarmedH.refl s
  have hat' : ∀ w ∈ vx_atS own ic cls names, w.before args s' = true := fun w hw => vx_ot_at hW0 hvm.symm (hgood w (List.mem_cons_of_mem _ (List.mem_cons_of_mem _ hw))) (hat w hw)
  have hk' : (Cond.classLink own ik cls).before args s' = true := vx_ot_at hW0 hvm.symm (hgood _ List.mem_cons_self) hk
  have hini' : (Cond.initialized cls).before args s' = true := vx_ot_at hW0 hvm.symm (hgood _ (List.mem_cons_of_mem _ List.mem_cons_self)) hini
  have hU' : vx_Zq Bundle.tN "UNASSIGNED_STACK" Bundle.steD A s' s'.heap := by rw [hhp]; exact vx_Zq.moved hW0.alike (hU.kept hS.2.1)
  have hN' : vx_Zq Bundle.tN "SUPPRESSED_SENTINEL" Bundle.listD A s' s'.heap := by rw [hhp]; exact vx_Zq.moved hW0.alike (hN.kept hS.2.1)
  have h : ∀ w ∈ Bundle.ownAtoms own ic cls names, w.before args s' = true := vx_own hat' (vx_isRefq hU'.1) (vx_isRefq hN'.1) hU'.2.word hN'.2.word
  have hown' : s'.vm.findClass own = some m.cls := by rw [hvm]; exact hown
  have hins : (Cond.instantiable cls 6).before args s' = true := h _ (by simp [Bundle.ownAtoms])
  obtain ⟨vm₁, cX, kX, hfX, hkX, -, -, X₁, st1⟩ := Y.newCold hexec (own := own) (C := cls) (index := ik) (n := 6) hown' hk' hins hini'
    (g := F0 m pc ls rest) rfl (by rw [hb]; exact d0) (Nat.le_refl _) (Nat.le_refl _)
  generalize hT1 : (T.setVm vm₁).pushCell { cls := cX, slots := kX.instanceTypes.map defaultValue, vm := .none } = T1 at X₁ st1
  have hcat : (Value.ref T.heap.size).category = 1 := rfl
  have hcellA : T1.heap[T.heap.size]? = some (freshCell cX kX) := by rw [← hT1]; exact State.heap_pushCell_size _ _
  have d3' : decode c.code (pc + 3) = .ok (.dup, 1) := by rw [hb]; exact d3
  have d4' : decode c.code (pc + 4) = .ok (.ldc_w is, 3) := by rw [hb]; exact d4
  have hstr' : vk_R own is text sa s' := vk_R.warm hW0 hstr
  obtain ⟨U, hsteps, hrun, hend, hW, hsame, ce, hce, hO⟩ := X₁.ctorThrowS hexec htr (own := own) (cls := cls) (names := names) (ic := ic) hown' hcls hnames h (fun x hx => nomatch hx) hfX hkX hcellA (by rw [hhp, hT]; exact Nat.le_refl _) (msg := .ref sa) rfl
    (g := { method := m, pc := pc + 7, locals := ls, stack := .ref sa :: .ref T.heap.size :: .ref T.heap.size :: rest, locked := none }) rfl hsize rfl rfl (rest := rest) rfl
    (by rw [hb]; exact d7) (by rw [hb]; exact d10) hout hRframes (by simp only [List.map_cons, List.sum_cons, hcat]; omega) hlocks
  obtain ⟨f1, f2⟩ := vx_frame hsame
  rw [hhp] at f1 f2
  have hWs : s.WarmedH U.vm := State.WarmedH.trans hW0 hW
  have hcl : s.vm.findClass cls = some ce.cls := by
    have h9 := hO.cls
    rw [hvm] at h9
    exact h9
  have hall : s.sameButNew ({ U with vm := s.vm } : State) locs mc ms := by
    subst hA
    obtain ⟨e1, e2⟩ := hsame
    rw [State.setFrames_setFrames] at e1
    have h2 : (T.setVm s.vm).sameButNew ({ U with vm := s.vm } : State) [] (0 + 1) (0 + 6) := ⟨e1, e2⟩
    have h3 := X.same.trans h2
    rw [List.append_nil] at h3
    exact h3.mono hc hs
  refine ⟨U, ?_, .threw T.heap.size, hrun, hend, Or.inr ⟨T.heap.size, rfl, cls, ce, locs, hx U hWs.alike f1 (fun q hq => f2 q hq (fun z hz => nomatch hz)), hce, hO.vm, hcl, hWs, hall, hf⟩⟩
  refine st1 _ ?_
  show Steps p.tables e below (T1.setTop { method := m, pc := pc + 3, locals := ls, stack := .ref T.heap.size :: rest, locked := none }) _
  jvm_step X₁.here [X₁.here.top, hexec, d3', Value.category]
  exact X₁.ldcStringW hexec (own := own) (text := text) (index := is) (a := sa) hown' hstr'.1 hstr'.2
    (g := { method := m, pc := pc + 4, locals := ls, stack := .ref T.heap.size :: .ref T.heap.size :: rest, locked := none }) rfl d4' _ hsteps
end Ends
section Bodies
variable {l : Launch}
theorem vx_ofW {y : MethodName} {ws ws' : List Cond} {rm : Room} {Pc : Array Value → State → Prop} {Qc : Array Value → State → Outcome → State → Prop} {XC : String → State → State → Prop} {mc ms : Nat} {free : Addr → Prop} {cc : ByteArray} {maxL : Nat} {ret : Option FieldType}
    (hy : plainName y.cls = true) (hw : ws = Cond.code y cc maxL ret :: ws')
    (body : ∀ p e s m args below meth c s₁, BodyLoose p l y (headSpec ws rm) cc maxL ret e s m args below meth c s₁ → c.maxLocals = maxL → (∀ x ∈ c.exceptionTable.toList, False) → Pc args s →
      W p l e (headSpec ws rm).room s m args below meth c s.heap [] 0 0 (vx_MQ below Qc XC args s mc ms free) (entryFrame m args maxL)) : vx_Met l y ws rm Pc Qc XC mc ms free := by
  refine MetFree.of_bodyS (code := cc) (maxLocals := maxL) (ret := ret) hy ?_ ?_
  · intro args s m h hn
    obtain ⟨meth, c, h1, h2, h3, h4, h5, h6, -, -⟩ := Cond.code_spec hn (atoms_spec (ws := ws) h _ (by rw [hw]; exact List.mem_cons_self))
    exact ⟨meth, c, h1, h2, h3, h4, h5, h6⟩
  · intro p e s m args below meth c s₁ B hml hP _
    have hh0 : s₁.heap = s.heap := by rw [B.state]; rfl
    have ht : ∀ x ∈ c.exceptionTable.toList, False := by
      obtain ⟨meth9, c9, h1, h2, -, -, -, -, h7, -⟩ := Cond.code_spec B.named (atoms_spec (ws := ws) B.pre _ (by rw [hw]; exact List.mem_cons_self))
      cases Option.some.inj (h1.symm.trans B.method)
      cases Option.some.inj (h2.symm.trans (Stand.of_body B).code)
      intro x hx
      rw [Array.isEmpty_iff.mp h7] at hx
      cases hx
    obtain ⟨t, a1, o, b1, b2, b3⟩ := body p e s m args below meth c s₁ B hml ht hP s₁ hh0 (Stand.of_body B)
    exact ⟨t, o, a1, b1, b2, b3⟩
/-- the table of a body with handlers -/
theorem vx_table {p : Program} {x y : MethodName} {S : Spec} {cc bytes : ByteArray} {maxL maxL' : Nat} {ret ret' : Option FieldType} {e : Env} {s s₁ : State} {m : MethodId} {args : Array Value} {below : List Frame} {meth : Method} {c : Code} {hh : List (Nat × Nat × Nat × Nat)}
    (B : BodyLoose p l y S cc maxL ret e s m args below meth c s₁) (h : (Cond.codeWith y bytes maxL' ret' hh).before args s = true) : c.exceptionTable.toList = tableOf hh := by
  obtain ⟨m9, meth9, c9, hn9, h1, h2, -, -, h6, -⟩ := Cond.codeWith_spec h
  cases Option.some.inj (hn9.symm.trans B.named)
  cases Option.some.inj (h1.symm.trans B.method)
  cases Option.some.inj (h2.symm.trans (Stand.of_body B).code)
  rw [← h6, table_eq]
end Bodies
end VXA
/-! ===== END ===== -/
/-! ===== BEGIN a static call of a method with an exception table ===== -/
section VXS
variable {p : Program} {l : Launch} {e : Env} {R : Room} {s : State} {m : MethodId} {args : Array Value} {below : List Frame} {meth : Method} {c : Code} {T : State} {H : Heap} {locs : List Loc} {cells slots : Nat}
abbrev vx_CSW (R : Room) (s : State) (args : Array Value) (own : String) (index : Nat) (y : MethodName) (bytes : ByteArray) (maxL : Nat) (ret : Option FieldType) (hh : List (Nat × Nat × Nat × Nat)) (ws : List Cond) (rm : Room) (mc ms n : Nat) : Prop :=
  (rm.cells = mc ∧ rm.slots = ms ∧ rm.frames + 1 ≤ R.frames ∧ 8 + (maxL + 11) + rm.locals ≤ R.locals ∧ (∀ w ∈ ws, ∀ (a' : Array Value) (U : State), s.WarmedH U.vm → w.before a' U = true) ∧ Cond.codeWith y bytes maxL ret hh ∈ ws) ∧
  (Cond.codeWith y bytes maxL ret hh).before args s = true ∧ (Cond.initialized y.cls).before args s = true ∧ (y.cls ≠ "java/lang/invoke/MethodHandle" ∧ y.cls ≠ "java/lang/invoke/VarHandle") ∧
  (∀ sig, parseMethodDescriptor y.desc = some sig → n = sig.parameters.length) ∧ (Cond.methodLink own index y).before args s = true ∧ (Cond.static y).before args s = true
theorem vx_cwSW {own : String} {index maxL mc ms : Nat} {y : MethodName} {bytes : ByteArray} {ret : Option FieldType} {hh : List (Nat × Nat × Nat × Nat)} {Ts ws ws' : List Cond} {rm : Room} (n : Nat) (ht : ∀ w ∈ Ts, w.before args s = true) (hT : GoodIn Ts (va_wsS own index y ws)) (hw : ws = Cond.codeWith y bytes maxL ret hh :: ws') (hrc : rm.cells = mc) (hrs : rm.slots = ms)
    (hd : y.cls ≠ "java/lang/invoke/MethodHandle" ∧ y.cls ≠ "java/lang/invoke/VarHandle" ∧ (parseMethodDescriptor y.desc).map (fun d => d.parameters.length) = some n) (hR : rm.frames + 1 ≤ R.frames ∧ 8 + (maxL + 11) + rm.locals ≤ R.locals) :
    vx_CSW R s args own index y bytes maxL ret hh ws rm mc ms n := by
  have ok : ∀ w ∈ va_wsS own index y ws, w.before args s = true := fun w h => ht w (hT w h).1
  have hG : GoodIn Ts ws := fun w h => hT w (by unfold va_wsS; exact List.mem_append_right _ h)
  have hc : Cond.codeWith y bytes maxL ret hh ∈ ws := by rw [hw]; exact List.mem_cons_self
  refine ⟨⟨hrc, hrs, hR.1, hR.2, pay_in ht hG, hc⟩, ht _ (hG _ hc).1, ok _ (by simp [va_wsS]), ⟨hd.1, hd.2.1⟩, fun sig h => ?_, ok _ (by simp [va_wsS]), ok _ (by simp [va_wsS])⟩
  have h2 := hd.2.2
  rw [h] at h2
  exact (Option.some.inj h2).symm
theorem vx_callSW (X : Stand p l e R s m args below meth c T locs cells slots) (hexec : p.tables.exec = Jvm.exec) {own : String} {index : Nat} {y : MethodName} {bytes : ByteArray} {maxL : Nat} {ret : Option FieldType} {hh : List (Nat × Nat × Nat × Nat)}
    (hown : s.vm.findClass own = some m.cls) (hlink : (Cond.methodLink own index y).before args s = true) (hstat : (Cond.static y).before args s = true) (hinit : (Cond.initialized y.cls).before args s = true)
    (hcode : (Cond.codeWith y bytes maxL ret hh).before args s = true) (hy : y.cls ≠ "java/lang/invoke/MethodHandle" ∧ y.cls ≠ "java/lang/invoke/VarHandle")
    {W9 : Nat} {Pre : Pt → Array Value → Prop} {Post : Pt → Array Value → Option Value → Pt → Prop} (hK : Back l R p e below s args y 3 W9 Pre Post)
    {g : JFrame} (hg : g.method = m) (hsize : g.locals.size = c.maxLocals) {argsL rest : List Value} (hlen : ∀ sig, parseMethodDescriptor y.desc = some sig → argsL.length = sig.parameters.length)
    (hstack : g.stack = argsL.reverse ++ rest) (hW : 2 * g.monitorRoom + (rest.map fun v => v.category).sum ≤ W9) (hdg : decode c.code g.pc = .ok (.invokestatic index, 3))
    (hpre : ∀ vm₁, s.WarmedH vm₁ → Pre ⟨T.setVm vm₁, locs, cells, slots⟩ argsL.toArray) :
    ∃ (v : Option Value) (vm₁ : Vm) (B : Pt), s.WarmedH vm₁ ∧ Stand p l e R s m args below meth c B.U B.locs B.cells B.slots ∧ Post ⟨T.setVm vm₁, locs, cells, slots⟩ argsL.toArray v B ∧
      ∀ target, Steps p.tables e below (B.U.setTop { g with pc := g.pc + 3, stack := v.toList ++ rest }) target → Steps p.tables e below (T.setTop g) target := by
  obtain ⟨mk, methM, cM, hnamed, hmethM, -, -, -, -, -, -, hsigM⟩ := Cond.codeWith_spec hcode
  have hstatic : methM.isStatic = true := Cond.static_spec hnamed hmethM hstat
  obtain ⟨kP, hkP, -⟩ := className_of_methodNamed hnamed
  have hinitP : kP.init = .initialized := Cond.initialized_spec (findClass_of_methodNamed hnamed) hkP hinit
  obtain ⟨vm₁, X₁, hstep₁⟩ := X.invokestatic hexec hown hlink hnamed hmethM hstatic hkP hinitP hy (g := g) hg (argsL := argsL) (rest := rest) (hlen _ hsigM) hstack hdg
  obtain ⟨v, B, X', hpost, hsteps⟩ := hK m meth c ⟨T.setVm vm₁, locs, cells, slots⟩ { g with stack := rest } (.invokestatic index) mk argsL.toArray X₁ hg hsize hdg hW (X₁.named hnamed) (hpre vm₁ X₁.warmed)
  exact ⟨v, vm₁, B, X₁.warmed, X', hpost, fun target h => hstep₁ _ fun acts => by rw [doInvoke_state]; exact hsteps.trans h⟩
theorem vx_runSW {y : MethodName} {bytes cc : ByteArray} {maxL nL mc ms n index : Nat} {ret : Option FieldType} {hh : List (Nat × Nat × Nat × Nat)} {ws : List Cond} {rm : Room} {Pc : Array Value → State → Prop} {Qc : Array Value → State → Outcome → State → Prop} {free : Addr → Prop} {Ts : List Cond} {own : String} {As rest : List Value} {g : JFrame}
    (S : CallFix p m c cc nL s args Ts own) (hM : Met l y ws rm Pc Qc mc ms free) (cw : vx_CSW R s args own index y bytes maxL ret hh ws rm mc ms n) (hp : PreS s H Pc As)
    (hg : g.method = m) (hn : As.length = n) (hsize : g.locals.size = nL) (hstack : g.stack = As.reverse ++ rest) (hW : 2 * g.monitorRoom + (rest.map fun v => v.category).sum ≤ 8) (hdg : decode cc g.pc = .ok (.invokestatic index, 3)) (hf : cells + mc ≤ R.cells ∧ slots + ms ≤ R.slots) :
    va_Run p l e R s m args below meth c H locs cells slots mc ms g rest (Qc As.toArray) (free) := by
  obtain ⟨⟨hrc, hrs, hfr, hlo, hws, hcw⟩, hcode, hini, hy, hlen, hl, hstt⟩ := cw
  have hK : Back l R p e below s args y 3 8 (PreOf R mc ms Pc) (PostOf Qc mc ms free) := va_backW (hh := hh) (bytes := bytes) (maxL := maxL) (ret := ret) hM hp.1 hrc hrs hfr hlo hws hcw (fun a' U hW => word_at hW (Or.inl (by first | rfl | simp [Cond.onTables, Cond.keeps, Cond.steady])) hini)
  obtain ⟨hx, hb, hml, ho, -⟩ := S
  intro T hT X
  obtain ⟨v, vm₁, ⟨U', l2, c2, s2⟩, hW₁, X', ⟨g', mk, t, L, e1, e2, hq, h1, hL, h2, h3⟩, st⟩ := vx_callSW X hx (hh := hh) (bytes := bytes) (maxL := maxL) (ret := ret) ho hl hstt hini hcode hy hK hg (hsize.trans hml.symm) (argsL := As) (rest := rest) (fun sig h => hn.trans (hlen sig h)) hstack hW (by rw [hb]; exact hdg)
    (fun vm₁ hW₁ => ⟨hf.1, hf.2, hp.2 (T.setVm vm₁) hT hW₁⟩)
  dsimp only [Pt.U, Pt.locs, Pt.cells, Pt.slots] at X' e1 e2 h1 h2 h3 st
  subst h1; subst h2; subst h3
  exact ⟨v, (T.setVm vm₁).calling g' mk As.toArray, t, U', L, hT, X', hL, e1, e2, hq, st⟩
/-- not caught here, past rows that name other classes: it goes on to the caller -/
theorem vx_outP {p : Program} {l : Launch} {e : Env} {R : Room} {s : State} {m : MethodId} {args : Array Value} {below : List Frame} {meth : Method} {c : Code} {H : Heap} {locs : List Loc} {cells slots : Nat} {free : Addr → Prop} {ls : Array Slot} {rest : List Value} {Qc : Array Value → State → Outcome → State → Prop} {XC : String → State → State → Prop}
    {pc : Nat} {own E : String} {ce : Cell} {q : Addr} {mc ms : Nat} (hown : s.vm.findClass own = some m.cls) (hlocks : meth.locks = false)
    (hpass : ∀ z ∈ c.exceptionTable.toList, covers z pc = false ∨ (z.catchType ≠ 0 ∧ ∃ nm : String, (Cond.classLink own z.catchType nm).before args s = true ∧ va_Nc E nm s)) (hcell : H[q]? = some ce) (hv : ce.vm = .none) (hcl : s.vm.findClass E = some ce.cls)
    (hx : ∀ t : State, t.heap = H → s.vm.Alike t.vm → XC E s t) (hf : ∀ z ∈ locs, free z.base) (hc : cells ≤ mc) (hs : slots ≤ ms) :
    vx_W p l e R s m args below meth c H locs cells slots (vx_MQ below Qc XC args s mc ms free) (F0 m pc ls rest) q := by
  intro T hT X
  have hpl : e.platform.magicAccessors = ({} : Platform).magicAccessors := by rw [X.admits.platform]
  obtain ⟨vm', hW', X', st⟩ := X.outThrough hlocks q (g := F0 m pc ls rest) rfl rfl rfl (cell := ce) (by rw [hT]; exact hcell) (by rw [hv]; rfl)
    (by obtain ⟨k9, h9, -⟩ := Vm.findClass_spec hcl; exact ⟨k9, h9⟩) (fun z hz => by
      rcases hpass z hz with h | ⟨hz0, nm, hl1, hn1⟩
      · exact Or.inl h
      · obtain ⟨c6, hc6, hcl6⟩ := Cond.classLink_spec hown hl1 e.platform hpl
        obtain ⟨a8, b8, h1, h2, h3⟩ := hn1
        cases Option.some.inj (h1.symm.trans hcl)
        cases Option.some.inj (h2.symm.trans hc6)
        exact Or.inr ⟨hz0, _, hcl6, h3⟩)
  obtain ⟨g₀, hfr⟩ := X'.frames_eq
  have hcell9 : ((T.setVm vm').setFrames (.throwing q :: below)).heap[q]? = some ce := by
    show T.heap[q]? = some ce
    rw [hT]; exact hcell
  have hend : Ended ((T.setVm vm').setFrames (.throwing q :: below)) below (.threw q) := State.frames_setFrames _ (State.cur_lt_of_frames hfr)
  refine ⟨(T.setVm vm').setFrames (.throwing q :: below), ?_, .threw q, X'.here.running, hend, Or.inr ⟨q, rfl, E, ce, locs, hx _ hT (X'.ends _).1.alike, hcell9, hv, hcl, (X'.ends _).1, (X'.ends _).2.mono hc hs, hf⟩⟩
  rw [X.pushThrowing_eq]
  exact st
/-- a thing of a world lies in the heap -/
theorem vx_lt {D : va_G} {cl : List vw_C} {ws : va_W} {H1 : Heap} (h : va_P D cl ws H1) {k : Nat} {q : Nat × va_E} (hk : ws[k]? = some q) : q.1 < H1.size := (h k q hk).lt
end VXS
/-! ===== END ===== -/
/-! ===== BEGIN methods with a table of their own: called by a name, returning or throwing ===== -/
section VXH
/-! vx_backW, vx_callVX, vx_callSX, vx_callVW, vx_runVW, vx_runVX, vx_runSX, vx_ofWH follow the same proofs as their sisters above (Free/Laws.lean, Shelf42/LK1.lean); vx_outP calls Shelf42/NT130.lean (outThrough). -/
section
variable {l : Launch} {R : Room} {p : Program} {e : Env} {below : List Frame} {s : State} {sargs : Array Value} {y : MethodName} {len W9 : Nat}
theorem vx_backW {ws : List Cond} {rm : Room} {Pc : Array Value → State → Prop} {Qc : Array Value → State → Outcome → State → Prop} {XC : String → State → State → Prop} {mc ms : Nat} {free : Addr → Prop} {bytes : ByteArray} {maxL : Nat} {ret : Option FieldType} {hh : List (Nat × Nat × Nat × Nat)}
    (hM : vx_Met l y ws rm Pc Qc XC mc ms free) (hblind : FrameBlind Pc) (hrc : rm.cells = mc) (hrs : rm.slots = ms)
    (hframes : rm.frames + 1 ≤ R.frames) (hlocals : W9 + (maxL + 11) + rm.locals ≤ R.locals)
    (hws : ∀ w ∈ ws, ∀ a' U, s.WarmedH U.vm → w.before a' U = true) (hcode : Cond.codeWith y bytes maxL ret hh ∈ ws) (hinit : ∀ a' U, s.WarmedH U.vm → (Cond.initialized y.cls).before a' U = true) :
    vx_Back l R p e below s sargs y len W9 (PreOf R mc ms Pc) (PostOf Qc mc ms free) (vx_Post XC mc ms free) := by
  intro m meth c A g ig mk a X hg hsize hdg hW hn hp
  have h1 : (headSpec ws rm).pre.before a A.U = true := atoms_intro fun w hw => hws w hw _ _ X.warmed
  have h2 : (Cond.codeWith y bytes maxL ret hh).before a A.U = true := hws _ hcode _ _ X.warmed
  have h3 : (Cond.initialized y.cls).before a A.U = true := hinit _ _ X.warmed
  have h4 : A.cells + (headSpec ws rm).room.cells ≤ R.cells := by rw [show (headSpec ws rm).room.cells = mc from hrc]; exact hp.1
  have h5 : A.slots + (headSpec ws rm).room.slots ≤ R.slots := by rw [show (headSpec ws rm).room.slots = ms from hrs]; exact hp.2.1
  have hPc : Pc a (A.U.calling g mk a) := hblind _ _ _ _ hp.2.2
  obtain ⟨U, Ls, c0, s0⟩ := A
  dsimp only [Pt.U, Pt.locs, Pt.cells, Pt.slots] at h1 h2 h3 h4 h5 X hn hPc ⊢
  obtain ⟨m9, methY, cY, hn9, hmY, hcY, -, hlY, -⟩ := Cond.codeWith_spec h2
  cases Option.some.inj (hn9.symm.trans hn)
  obtain ⟨kY, hkY, -⟩ := className_of_methodNamed hn
  have hinitY : kY.init = .initialized := Cond.initialized_spec (findClass_of_methodNamed hn) hkY h3
  have h : At U g.method c below := by rw [hg]; exact X.here
  have hlocals9 : W9 + (maxL + 11) + (headSpec ws rm).room.locals ≤ R.locals := hlocals
  have happ : (headSpec ws rm).appliesLoose y e.platform (U.calling g mk a) = true :=
    Spec.appliesLoose_calling (g := g) h hdg hn hkY hinitY
      (X.room_calling (g := g) (R' := (headSpec ws rm).room) hsize hmY hcY hframes (by rw [hlY]; omega) h4 h5) h1
  obtain ⟨mid, hmid⟩ := h.above
  have hfr : (U.setTop g).frames = (.java g :: mid) ++ below := by rw [State.frames_setTop' g h.top, hmid]; rfl
  obtain ⟨o, s₂, hsteps, -, hend, hq⟩ := Steps.callFree hM p X.admits X.cas X.clock (acts := []) hfr happ hPc trivial
  have hq' : vx_Q Qc XC mc ms free a (U.calling g mk a) o s₂ := hq
  rw [State.frames_setTop' g h.top] at hend
  obtain ⟨g₀, hg0⟩ := Option.isSome_iff_exists.mp h.top
  obtain ⟨r, hr⟩ := State.topJava?_eq_some.mp hg0
  have hr' : (({ U with heap := s₂.heap, slotsUsed := s₂.slotsUsed } : State).setVm s₂.vm).frames = .java g₀ :: r := hr
  rcases hq' with ⟨hqc, L, hfe, hL⟩ | ⟨q, rfl, E, ce, L, hx, hce, hcv, hcl, hW₂, hsm, hL⟩
  · obtain ⟨⟨v, rfl⟩, hW₂, e2, q2, q3, q4, q5, q6⟩ := id hfe
    have e3 : s₂ = ({ (U.calling g mk a).setFrames s₂.frames with heap := s₂.heap, slotsUsed := s₂.slotsUsed } : State).setVm s₂.vm := by
      have : s₂ = ({ s₂ with vm := (U.calling g mk a).vm } : State).setVm s₂.vm := rfl
      rw [e2] at this
      exact this
    obtain ⟨c₂, i₂, len₂, hc₂, hd₂, hf₂⟩ := hend
    have hW' : U.WarmedH s₂.vm := hW₂
    have hcc : c₂ = c := by
      have h1 : s₂.code? g.method = U.code? g.method := by
        rw [State.code?_eq, State.code?_eq, hW'.alike.method?]
      exact Option.some.inj (hc₂.symm.trans (h1.trans h.code))
    subst hcc
    have hlen : len₂ = len := by rw [hdg] at hd₂; cases hd₂; rfl
    subst hlen
    have hs₂ : s₂ = (({ U with heap := s₂.heap, slotsUsed := s₂.slotsUsed } : State).setVm s₂.vm).setTop { g with pc := g.pc + len₂, stack := v.toList ++ g.stack } := by
      refine e3.trans ?_
      rw [hf₂, State.calling_eq h.top, State.setFrames_setFrames, State.setTop_of_frames _ hr', hr]
      rfl
    have hsame : U.sameButNew ({ U with heap := s₂.heap, slotsUsed := s₂.slotsUsed } : State) L mc ms := by
      refine ⟨?_, q2, q3, q4, q5, q6⟩
      obtain ⟨t, ht, -⟩ := State.frames_cons hr
      show ({ U with heap := s₂.heap, slotsUsed := s₂.slotsUsed } : State) = { U.setFrames U.frames with heap := s₂.heap, slotsUsed := s₂.slotsUsed }
      rw [State.setFrames_self ht]
    subst hg
    refine Or.inl ⟨v, ⟨(({ U with heap := s₂.heap, slotsUsed := s₂.slotsUsed } : State).setVm s₂.vm), Ls ++ L, c0 + mc, s0 + ms⟩,
      ⟨X.admits, X.cas, X.clock, X.frames, X.room, X.hears, X.method, X.code, (X.here.setHeapUsed s₂.heap s₂.slotsUsed).setVm hW'.alike, X.tail, State.WarmedH.trans X.warmed hW', X.limits, X.bytes, X.same.trans (hsame.setVm s.vm)⟩,
      ⟨g, mk, s₂, L, rfl, rfl, hqc, rfl, hL, rfl, rfl⟩, ?_⟩
    show Steps p.tables e below _ ((({ U with heap := s₂.heap, slotsUsed := s₂.slotsUsed } : State).setVm s₂.vm).setTop { g with pc := g.pc + len₂, stack := v.toList ++ g.stack })
    rw [← hs₂]
    exact hsteps
  · obtain ⟨e2, q2, q3, q4, q5, q6⟩ := id hsm
    have e3 : s₂ = ({ (U.calling g mk a).setFrames s₂.frames with heap := s₂.heap, slotsUsed := s₂.slotsUsed } : State).setVm s₂.vm := by
      have : s₂ = ({ s₂ with vm := (U.calling g mk a).vm } : State).setVm s₂.vm := rfl
      rw [e2] at this
      exact this
    have hf₂ : s₂.frames = .throwing q :: .java g :: U.frames.tail := hend
    have hW' : U.WarmedH s₂.vm := hW₂
    have hs₂ : s₂ = ((({ U with heap := s₂.heap, slotsUsed := s₂.slotsUsed } : State).setVm s₂.vm).setTop g).pushFrame (.throwing q) := by
      refine e3.trans ?_
      rw [hf₂, State.calling_eq h.top, State.setFrames_setFrames, State.pushFrame, State.frames_setTop _ hr', State.setTop_of_frames _ hr', State.setFrames_setFrames, hr]
      rfl
    have hsame : U.sameButNew ({ U with heap := s₂.heap, slotsUsed := s₂.slotsUsed } : State) L mc ms := by
      refine ⟨?_, q2, q3, q4, q5, q6⟩
      obtain ⟨t, ht, -⟩ := State.frames_cons hr
      show ({ U with heap := s₂.heap, slotsUsed := s₂.slotsUsed } : State) = { U.setFrames U.frames with heap := s₂.heap, slotsUsed := s₂.slotsUsed }
      rw [State.setFrames_self ht]
    subst hg
    refine Or.inr ⟨q, ⟨(({ U with heap := s₂.heap, slotsUsed := s₂.slotsUsed } : State).setVm s₂.vm), Ls ++ L, c0 + mc, s0 + ms⟩,
      ⟨X.admits, X.cas, X.clock, X.frames, X.room, X.hears, X.method, X.code, (X.here.setHeapUsed s₂.heap s₂.slotsUsed).setVm hW'.alike, X.tail, State.WarmedH.trans X.warmed hW', X.limits, X.bytes, X.same.trans (hsame.setVm s.vm)⟩,
      ⟨g, mk, s₂, L, E, ce, rfl, rfl, hx, hce, hcv, hcl, rfl, hL, rfl, rfl⟩, ?_⟩
    show Steps p.tables e below _ (((({ U with heap := s₂.heap, slotsUsed := s₂.slotsUsed } : State).setVm s₂.vm).setTop g).pushFrame (.throwing q))
    rw [← hs₂]
    exact hsteps
end
variable {p : Program} {l : Launch} {e : Env} {R : Room} {s : State} {m : MethodId} {args : Array Value} {below : List Frame} {meth : Method} {c : Code} {T : State} {H : Heap} {locs : List Loc} {cells slots : Nat}
theorem vx_callVX (X : Stand p l e R s m args below meth c T locs cells slots) (hexec : p.tables.exec = Jvm.exec) {own C : String} {index : Nat} {y : MethodName} {bytes : ByteArray} {maxL : Nat} {ret : Option FieldType} {hh : List (Nat × Nat × Nat × Nat)}
    (hown : s.vm.findClass own = some m.cls) (hlink : (Cond.methodLink own index y).before args s = true) (hinst : (Cond.instanceMethod y).before args s = true) (hsel : (Cond.selects C y y).before args s = true)
    (hcode : (Cond.codeWith y bytes maxL ret hh).before args s = true) (hy : y.cls ≠ "java/lang/invoke/MethodHandle" ∧ y.cls ≠ "java/lang/invoke/VarHandle")
    {W9 : Nat} {Pre : Pt → Array Value → Prop} {Post : Pt → Array Value → Option Value → Pt → Prop} {PostX : Pt → Array Value → Addr → Pt → Prop} (hK : vx_Back l R p e below s args y 3 W9 Pre Post PostX)
    {b : Addr} {cellB : Cell} (hcell : T.heap[b]? = some cellB) (hobj : cellB.vm.isStatics = false) (hcls : s.vm.findClass C = some cellB.cls)
    {g : JFrame} (hg : g.method = m) (hsize : g.locals.size = c.maxLocals) {argsL rest : List Value} (hlen : ∀ sig, parseMethodDescriptor y.desc = some sig → argsL.length = sig.parameters.length)
    (hstack : g.stack = argsL.reverse ++ .ref b :: rest) (hW : 2 * g.monitorRoom + (rest.map fun v => v.category).sum ≤ W9) (hdg : decode c.code g.pc = .ok (.invokevirtual index, 3))
    (hpre : ∀ vm₁, s.WarmedH vm₁ → Pre ⟨T.setVm vm₁, locs, cells, slots⟩ (Value.ref b :: argsL).toArray) :
    (∃ (v : Option Value) (vm₁ : Vm) (B : Pt), s.WarmedH vm₁ ∧ Stand p l e R s m args below meth c B.U B.locs B.cells B.slots ∧ Post ⟨T.setVm vm₁, locs, cells, slots⟩ (Value.ref b :: argsL).toArray v B ∧
      ∀ target, Steps p.tables e below (B.U.setTop { g with pc := g.pc + 3, stack := v.toList ++ rest }) target → Steps p.tables e below (T.setTop g) target) ∨
    (∃ (q : Addr) (vm₁ : Vm) (B : Pt), s.WarmedH vm₁ ∧ Stand p l e R s m args below meth c B.U B.locs B.cells B.slots ∧ PostX ⟨T.setVm vm₁, locs, cells, slots⟩ (Value.ref b :: argsL).toArray q B ∧
      Steps p.tables e below (T.setTop g) ((B.U.setTop { g with stack := rest }).pushFrame (.throwing q))) := by
  obtain ⟨mk, methM, hnamed, hmethM, hstM, habM⟩ := Cond.instanceMethod_spec hinst
  obtain ⟨m8, methM', cM, hn8, hmethM', -, -, -, -, -, -, hsigM⟩ := Cond.codeWith_spec hcode
  cases Option.some.inj (hn8.symm.trans hnamed)
  cases hmethM.symm.trans hmethM'
  obtain ⟨c2, r2, m2, q1, q2, q3, q4, kP, hkP, hkPi⟩ := Cond.selects_spec hsel
  cases hcls.symm.trans q1
  cases (State.methodFound?_of_named hnamed hy).symm.trans q2
  cases hnamed.symm.trans q3
  have hselP : selectMethod e.platform s.vm cellB.cls mk = .method mk := by rw [Launch.admits_selectMethod X.admits]; exact q4
  obtain ⟨vm₁, X₁, hstep₁⟩ := X.invokevirtual hexec hown hlink hnamed hmethM hstM hkP hkPi hy (a := b) (cell := cellB) hcell
    (fun z h => by rw [h] at hobj; cases hobj) hselP hmethM habM hkP hkPi (g := g) hg (argsL := argsL) (rest := rest) (hlen _ hsigM) hstack hdg
  rcases hK m meth c ⟨T.setVm vm₁, locs, cells, slots⟩ { g with stack := rest } (.invokevirtual index) mk (Value.ref b :: argsL).toArray X₁ hg hsize hdg hW (X₁.named hnamed) (hpre vm₁ X₁.warmed) with ⟨v, B, X', hpost, hsteps⟩ | ⟨q, B, X', hpost, hsteps⟩
  · exact Or.inl ⟨v, vm₁, B, X₁.warmed, X', hpost, fun target h => hstep₁ _ fun acts => by rw [doInvoke_state]; exact hsteps.trans h⟩
  · exact Or.inr ⟨q, vm₁, B, X₁.warmed, X', hpost, hstep₁ _ fun acts => by rw [doInvoke_state]; exact hsteps⟩
theorem vx_callSX (X : Stand p l e R s m args below meth c T locs cells slots) (hexec : p.tables.exec = Jvm.exec) {own : String} {index : Nat} {y : MethodName} {bytes : ByteArray} {maxL : Nat} {ret : Option FieldType} {hh : List (Nat × Nat × Nat × Nat)}
    (hown : s.vm.findClass own = some m.cls) (hlink : (Cond.methodLink own index y).before args s = true) (hstat : (Cond.static y).before args s = true) (hinit : (Cond.initialized y.cls).before args s = true)
    (hcode : (Cond.codeWith y bytes maxL ret hh).before args s = true) (hy : y.cls ≠ "java/lang/invoke/MethodHandle" ∧ y.cls ≠ "java/lang/invoke/VarHandle")
    {W9 : Nat} {Pre : Pt → Array Value → Prop} {Post : Pt → Array Value → Option Value → Pt → Prop} {PostX : Pt → Array Value → Addr → Pt → Prop} (hK : vx_Back l R p e below s args y 3 W9 Pre Post PostX)
    {g : JFrame} (hg : g.method = m) (hsize : g.locals.size = c.maxLocals) {argsL rest : List Value} (hlen : ∀ sig, parseMethodDescriptor y.desc = some sig → argsL.length = sig.parameters.length)
    (hstack : g.stack = argsL.reverse ++ rest) (hW : 2 * g.monitorRoom + (rest.map fun v => v.category).sum ≤ W9) (hdg : decode c.code g.pc = .ok (.invokestatic index, 3))
    (hpre : ∀ vm₁, s.WarmedH vm₁ → Pre ⟨T.setVm vm₁, locs, cells, slots⟩ argsL.toArray) :
    (∃ (v : Option Value) (vm₁ : Vm) (B : Pt), s.WarmedH vm₁ ∧ Stand p l e R s m args below meth c B.U B.locs B.cells B.slots ∧ Post ⟨T.setVm vm₁, locs, cells, slots⟩ argsL.toArray v B ∧
      ∀ target, Steps p.tables e below (B.U.setTop { g with pc := g.pc + 3, stack := v.toList ++ rest }) target → Steps p.tables e below (T.setTop g) target) ∨
    (∃ (q : Addr) (vm₁ : Vm) (B : Pt), s.WarmedH vm₁ ∧ Stand p l e R s m args below meth c B.U B.locs B.cells B.slots ∧ PostX ⟨T.setVm vm₁, locs, cells, slots⟩ argsL.toArray q B ∧
      Steps p.tables e below (T.setTop g) ((B.U.setTop { g with stack := rest }).pushFrame (.throwing q))) := by
  obtain ⟨mk, methM, cM, hnamed, hmethM, -, -, -, -, -, -, hsigM⟩ := Cond.codeWith_spec hcode
  have hstatic : methM.isStatic = true := Cond.static_spec hnamed hmethM hstat
  obtain ⟨kP, hkP, -⟩ := className_of_methodNamed hnamed
  have hinitP : kP.init = .initialized := Cond.initialized_spec (findClass_of_methodNamed hnamed) hkP hinit
  obtain ⟨vm₁, X₁, hstep₁⟩ := X.invokestatic hexec hown hlink hnamed hmethM hstatic hkP hinitP hy (g := g) hg (argsL := argsL) (rest := rest) (hlen _ hsigM) hstack hdg
  rcases hK m meth c ⟨T.setVm vm₁, locs, cells, slots⟩ { g with stack := rest } (.invokestatic index) mk argsL.toArray X₁ hg hsize hdg hW (X₁.named hnamed) (hpre vm₁ X₁.warmed) with ⟨v, B, X', hpost, hsteps⟩ | ⟨q, B, X', hpost, hsteps⟩
  · exact Or.inl ⟨v, vm₁, B, X₁.warmed, X', hpost, fun target h => hstep₁ _ fun acts => by rw [doInvoke_state]; exact hsteps.trans h⟩
  · exact Or.inr ⟨q, vm₁, B, X₁.warmed, X', hpost, hstep₁ _ fun acts => by rw [doInvoke_state]; exact hsteps⟩
theorem vx_callVW (X : Stand p l e R s m args below meth c T locs cells slots) (hexec : p.tables.exec = Jvm.exec) {own C : String} {index : Nat} {y : MethodName} {bytes : ByteArray} {maxL : Nat} {ret : Option FieldType} {hh : List (Nat × Nat × Nat × Nat)}
    (hown : s.vm.findClass own = some m.cls) (hlink : (Cond.methodLink own index y).before args s = true) (hinst : (Cond.instanceMethod y).before args s = true) (hsel : (Cond.selects C y y).before args s = true)
    (hcode : (Cond.codeWith y bytes maxL ret hh).before args s = true) (hy : y.cls ≠ "java/lang/invoke/MethodHandle" ∧ y.cls ≠ "java/lang/invoke/VarHandle")
    {W9 : Nat} {Pre : Pt → Array Value → Prop} {Post : Pt → Array Value → Option Value → Pt → Prop} (hK : Back l R p e below s args y 3 W9 Pre Post)
    {b : Addr} {cellB : Cell} (hcell : T.heap[b]? = some cellB) (hobj : cellB.vm.isStatics = false) (hcls : s.vm.findClass C = some cellB.cls)
    {g : JFrame} (hg : g.method = m) (hsize : g.locals.size = c.maxLocals) {argsL rest : List Value} (hlen : ∀ sig, parseMethodDescriptor y.desc = some sig → argsL.length = sig.parameters.length)
    (hstack : g.stack = argsL.reverse ++ .ref b :: rest) (hW : 2 * g.monitorRoom + (rest.map fun v => v.category).sum ≤ W9) (hdg : decode c.code g.pc = .ok (.invokevirtual index, 3))
    (hpre : ∀ vm₁, s.WarmedH vm₁ → Pre ⟨T.setVm vm₁, locs, cells, slots⟩ (Value.ref b :: argsL).toArray) :
    ∃ (v : Option Value) (vm₁ : Vm) (B : Pt), s.WarmedH vm₁ ∧ Stand p l e R s m args below meth c B.U B.locs B.cells B.slots ∧ Post ⟨T.setVm vm₁, locs, cells, slots⟩ (Value.ref b :: argsL).toArray v B ∧
      ∀ target, Steps p.tables e below (B.U.setTop { g with pc := g.pc + 3, stack := v.toList ++ rest }) target → Steps p.tables e below (T.setTop g) target := by
  obtain ⟨mk, methM, hnamed, hmethM, hstM, habM⟩ := Cond.instanceMethod_spec hinst
  obtain ⟨m8, methM', cM, hn8, hmethM', -, -, -, -, -, -, hsigM⟩ := Cond.codeWith_spec hcode
  cases Option.some.inj (hn8.symm.trans hnamed)
  cases hmethM.symm.trans hmethM'
  obtain ⟨c2, r2, m2, q1, q2, q3, q4, kP, hkP, hkPi⟩ := Cond.selects_spec hsel
  cases hcls.symm.trans q1
  cases (State.methodFound?_of_named hnamed hy).symm.trans q2
  cases hnamed.symm.trans q3
  have hselP : selectMethod e.platform s.vm cellB.cls mk = .method mk := by rw [Launch.admits_selectMethod X.admits]; exact q4
  obtain ⟨vm₁, X₁, hstep₁⟩ := X.invokevirtual hexec hown hlink hnamed hmethM hstM hkP hkPi hy (a := b) (cell := cellB) hcell
    (fun z h => by rw [h] at hobj; cases hobj) hselP hmethM habM hkP hkPi (g := g) hg (argsL := argsL) (rest := rest) (hlen _ hsigM) hstack hdg
  obtain ⟨v, B, X', hpost, hsteps⟩ := hK m meth c ⟨T.setVm vm₁, locs, cells, slots⟩ { g with stack := rest } (.invokevirtual index) mk (Value.ref b :: argsL).toArray X₁ hg hsize hdg hW (X₁.named hnamed) (hpre vm₁ X₁.warmed)
  exact ⟨v, vm₁, B, X₁.warmed, X', hpost, fun target h => hstep₁ _ fun acts => by rw [doInvoke_state]; exact hsteps.trans h⟩
abbrev vx_CVW (R : Room) (s : State) (args : Array Value) (own C : String) (index : Nat) (y : MethodName) (bytes : ByteArray) (maxL : Nat) (ret : Option FieldType) (hh : List (Nat × Nat × Nat × Nat)) (ws : List Cond) (rm : Room) (mc ms n : Nat) : Prop :=
  (rm.cells = mc ∧ rm.slots = ms ∧ rm.frames + 1 ≤ R.frames ∧ 8 + (maxL + 11) + rm.locals ≤ R.locals ∧ (∀ w ∈ ws, ∀ (a' : Array Value) (U : State), s.WarmedH U.vm → w.before a' U = true) ∧ Cond.codeWith y bytes maxL ret hh ∈ ws) ∧
  (Cond.codeWith y bytes maxL ret hh).before args s = true ∧ (Cond.initialized y.cls).before args s = true ∧ (y.cls ≠ "java/lang/invoke/MethodHandle" ∧ y.cls ≠ "java/lang/invoke/VarHandle") ∧
  (∀ sig, parseMethodDescriptor y.desc = some sig → n = sig.parameters.length) ∧ (Cond.methodLink own index y).before args s = true ∧ (Cond.instanceMethod y).before args s = true ∧ (Cond.selects C y y).before args s = true
theorem vx_cwVW {own C : String} {index maxL mc ms : Nat} {y : MethodName} {bytes : ByteArray} {ret : Option FieldType} {hh : List (Nat × Nat × Nat × Nat)} {Ts ws ws' : List Cond} {rm : Room} (n : Nat) (ht : ∀ w ∈ Ts, w.before args s = true) (hT : GoodIn Ts (wsV own index C y ws)) (hw : ws = Cond.codeWith y bytes maxL ret hh :: ws') (hrc : rm.cells = mc) (hrs : rm.slots = ms)
    (hd : y.cls = C ∧ y.cls ≠ "java/lang/invoke/MethodHandle" ∧ y.cls ≠ "java/lang/invoke/VarHandle" ∧ (parseMethodDescriptor y.desc).map (fun d => d.parameters.length) = some n) (hR : rm.frames + 1 ≤ R.frames ∧ 8 + (maxL + 11) + rm.locals ≤ R.locals) :
    vx_CVW R s args own C index y bytes maxL ret hh ws rm mc ms n := by
  obtain ⟨hC, hd⟩ := hd
  subst hC
  have ok : ∀ w ∈ wsV own index y.cls y ws, w.before args s = true := fun w h => ht w (hT w h).1
  have hG : GoodIn Ts ws := fun w h => hT w (by unfold wsV; exact List.mem_append_right _ h)
  have hc : Cond.codeWith y bytes maxL ret hh ∈ ws := by rw [hw]; exact List.mem_cons_self
  refine ⟨⟨hrc, hrs, hR.1, hR.2, pay_in ht hG, hc⟩, ht _ (hG _ hc).1, ok _ (by simp [wsV]), ⟨hd.1, hd.2.1⟩, fun sig h => ?_, ok _ (by simp [wsV]), ok _ (by simp [wsV]), ok _ (by simp [wsV])⟩
  have h2 := hd.2.2
  rw [h] at h2
  exact (Option.some.inj h2).symm
theorem vx_runVW {y : MethodName} {bytes cc : ByteArray} {maxL nL mc ms n index : Nat} {ret : Option FieldType} {hh : List (Nat × Nat × Nat × Nat)} {ws : List Cond} {rm : Room} {Pc : Array Value → State → Prop} {Qc : Array Value → State → Outcome → State → Prop} {free : Addr → Prop} {Ts : List Cond} {own C : String} {b : Addr} {As rest : List Value} {g : JFrame}
    (S : CallFix p m c cc nL s args Ts own) (hM : Met l y ws rm Pc Qc mc ms free) (cw : vx_CVW R s args own C index y bytes maxL ret hh ws rm mc ms n) (hp : PreV s H C b Pc As)
    (hg : g.method = m) (hn : As.length = n) (hsize : g.locals.size = nL) (hstack : g.stack = As.reverse ++ .ref b :: rest) (hW : 2 * g.monitorRoom + (rest.map fun v => v.category).sum ≤ 8) (hdg : decode cc g.pc = .ok (.invokevirtual index, 3)) (hf : cells + mc ≤ R.cells ∧ slots + ms ≤ R.slots) :
    va_Run p l e R s m args below meth c H locs cells slots mc ms g rest (Qc (Value.ref b :: As).toArray) free := by
  obtain ⟨⟨hrc, hrs, hfr, hlo, hws, hcw⟩, hcode, hini, hy, hlen, hl, hin, hse⟩ := cw
  have hK : Back l R p e below s args y 3 8 (PreOf R mc ms Pc) (PostOf Qc mc ms free) := va_backW (hh := hh) (bytes := bytes) (maxL := maxL) (ret := ret) hM hp.1 hrc hrs hfr hlo hws hcw (fun a' U hW => word_at hW (Or.inl (by first | rfl | simp [Cond.onTables, Cond.keeps, Cond.steady])) hini)
  obtain ⟨hx, hb, hml, ho, -⟩ := S
  obtain ⟨-, ⟨cellB, hcB, hoB, hclB⟩, hPc⟩ := hp
  intro T hT X
  obtain ⟨v, vm₁, ⟨U', l2, c2, s2⟩, hW₁, X', ⟨g', mk, t, L, e1, e2, hq, h1, hL, h2, h3⟩, st⟩ := vx_callVW X hx (C := C) (hh := hh) (bytes := bytes) (maxL := maxL) (ret := ret) ho hl hin hse hcode hy hK (by rw [hT]; exact hcB) hoB hclB hg (hsize.trans hml.symm) (argsL := As) (rest := rest) (fun sig h => hn.trans (hlen sig h)) hstack hW (by rw [hb]; exact hdg)
    (fun vm₁ hW₁ => ⟨hf.1, hf.2, hPc (T.setVm vm₁) hT hW₁⟩)
  dsimp only [Pt.U, Pt.locs, Pt.cells, Pt.slots] at X' e1 e2 h1 h2 h3 st
  subst h1; subst h2; subst h3
  exact ⟨v, (T.setVm vm₁).calling g' mk (Value.ref b :: As).toArray, t, U', L, hT, X', hL, e1, e2, hq, st⟩
section
variable {y : MethodName} {bytes cc : ByteArray} {maxL nL mc ms n index : Nat} {ret : Option FieldType} {ws : List Cond} {rm : Room} {Pc : Array Value → State → Prop} {Qc : Array Value → State → Outcome → State → Prop} {XC : String → State → State → Prop} {free : Addr → Prop} {Ts : List Cond} {own C : String} {b : Addr} {As rest : List Value} {g : JFrame}
theorem vx_runVX {hh : List (Nat × Nat × Nat × Nat)} (S : CallFix p m c cc nL s args Ts own) (hM : vx_Met l y ws rm Pc Qc XC mc ms free) (cw : vx_CVW R s args own C index y bytes maxL ret hh ws rm mc ms n) (hp : PreV s H C b Pc As)
    (hg : g.method = m) (hn : As.length = n) (hsize : g.locals.size = nL) (hstack : g.stack = As.reverse ++ .ref b :: rest) (hW : 2 * g.monitorRoom + (rest.map fun v => v.category).sum ≤ 8) (hdg : decode cc g.pc = .ok (.invokevirtual index, 3)) (hf : cells + mc ≤ R.cells ∧ slots + ms ≤ R.slots) :
    vx_Run p l e R s m args below meth c H locs cells slots mc ms g rest (Qc (Value.ref b :: As).toArray) XC free := by
  obtain ⟨⟨hrc, hrs, hfr, hlo, hws, hcw⟩, hcode, hini, hy, hlen, hl, hin, hse⟩ := cw
  have hK : vx_Back l R p e below s args y 3 8 (PreOf R mc ms Pc) (PostOf Qc mc ms free) (vx_Post XC mc ms free) := vx_backW (hh := hh) (bytes := bytes) (maxL := maxL) (ret := ret) hM hp.1 hrc hrs hfr hlo hws hcw (fun a' U hW => word_at hW (Or.inl (by first | rfl | simp [Cond.onTables, Cond.keeps, Cond.steady])) hini)
  obtain ⟨hx, hb, hml, ho, -⟩ := S
  obtain ⟨-, ⟨cellB, hcB, hoB, hclB⟩, hPc⟩ := hp
  intro T hT X
  rcases vx_callVX X hx (C := C) (hh := hh) (bytes := bytes) (maxL := maxL) (ret := ret) ho hl hin hse hcode hy hK (by rw [hT]; exact hcB) hoB hclB hg (hsize.trans hml.symm) (argsL := As) (rest := rest) (fun sig h => hn.trans (hlen sig h)) hstack hW (by rw [hb]; exact hdg)
    (fun vm₁ hW₁ => ⟨hf.1, hf.2, hPc (T.setVm vm₁) hT hW₁⟩) with ⟨v, vm₁, ⟨U', l2, c2, s2⟩, hW₁, X', ⟨g', mk, t, L, e1, e2, hq, h1, hL, h2, h3⟩, st⟩ | ⟨q, vm₁, ⟨U', l2, c2, s2⟩, hW₁, X', ⟨g', mk, t, L, E, ce, e1, e2, hq, hce, hcv, hcl, h1, hL, h2, h3⟩, st⟩
  · dsimp only [Pt.U, Pt.locs, Pt.cells, Pt.slots] at X' e1 e2 h1 h2 h3 st
    subst h1; subst h2; subst h3
    exact Or.inl ⟨v, (T.setVm vm₁).calling g' mk (Value.ref b :: As).toArray, t, U', L, hT, X', hL, e1, e2, hq, st⟩
  · dsimp only [Pt.U, Pt.locs, Pt.cells, Pt.slots] at X' e1 e2 h1 h2 h3 st hcl
    subst h1; subst h2; subst h3
    exact Or.inr ⟨q, (T.setVm vm₁).calling g' mk (Value.ref b :: As).toArray, t, U', L, E, ce, hT, X', hL, e1, e2, hq, hce, hcv, vx_cls hW₁ hcl, st⟩
theorem vx_runSX {hh : List (Nat × Nat × Nat × Nat)} (S : CallFix p m c cc nL s args Ts own) (hM : vx_Met l y ws rm Pc Qc XC mc ms free) (cw : vx_CSW R s args own index y bytes maxL ret hh ws rm mc ms n) (hp : PreS s H Pc As)
    (hg : g.method = m) (hn : As.length = n) (hsize : g.locals.size = nL) (hstack : g.stack = As.reverse ++ rest) (hW : 2 * g.monitorRoom + (rest.map fun v => v.category).sum ≤ 8) (hdg : decode cc g.pc = .ok (.invokestatic index, 3)) (hf : cells + mc ≤ R.cells ∧ slots + ms ≤ R.slots) :
    vx_Run p l e R s m args below meth c H locs cells slots mc ms g rest (Qc As.toArray) XC free := by
  obtain ⟨⟨hrc, hrs, hfr, hlo, hws, hcw⟩, hcode, hini, hy, hlen, hl, hstt⟩ := cw
  have hK : vx_Back l R p e below s args y 3 8 (PreOf R mc ms Pc) (PostOf Qc mc ms free) (vx_Post XC mc ms free) := vx_backW (hh := hh) (bytes := bytes) (maxL := maxL) (ret := ret) hM hp.1 hrc hrs hfr hlo hws hcw (fun a' U hW => word_at hW (Or.inl (by first | rfl | simp [Cond.onTables, Cond.keeps, Cond.steady])) hini)
  obtain ⟨hx, hb, hml, ho, -⟩ := S
  intro T hT X
  rcases vx_callSX X hx (hh := hh) (bytes := bytes) (maxL := maxL) (ret := ret) ho hl hstt hini hcode hy hK hg (hsize.trans hml.symm) (argsL := As) (rest := rest) (fun sig h => hn.trans (hlen sig h)) hstack hW (by rw [hb]; exact hdg)
    (fun vm₁ hW₁ => ⟨hf.1, hf.2, hp.2 (T.setVm vm₁) hT hW₁⟩) with ⟨v, vm₁, ⟨U', l2, c2, s2⟩, hW₁, X', ⟨g', mk, t, L, e1, e2, hq, h1, hL, h2, h3⟩, st⟩ | ⟨q, vm₁, ⟨U', l2, c2, s2⟩, hW₁, X', ⟨g', mk, t, L, E, ce, e1, e2, hq, hce, hcv, hcl, h1, hL, h2, h3⟩, st⟩
  · dsimp only [Pt.U, Pt.locs, Pt.cells, Pt.slots] at X' e1 e2 h1 h2 h3 st
    subst h1; subst h2; subst h3
    exact Or.inl ⟨v, (T.setVm vm₁).calling g' mk As.toArray, t, U', L, hT, X', hL, e1, e2, hq, st⟩
  · dsimp only [Pt.U, Pt.locs, Pt.cells, Pt.slots] at X' e1 e2 h1 h2 h3 st hcl
    subst h1; subst h2; subst h3
    exact Or.inr ⟨q, (T.setVm vm₁).calling g' mk As.toArray, t, U', L, E, ce, hT, X', hL, e1, e2, hq, hce, hcv, vx_cls hW₁ hcl, st⟩
end
end VXH
theorem vx_ofWH {l : Launch} {y : MethodName} {ws ws' : List Cond} {rm : Room} {Pc : Array Value → State → Prop} {Qc : Array Value → State → Outcome → State → Prop} {XC : String → State → State → Prop} {mc ms : Nat} {free : Addr → Prop} {cc : ByteArray} {maxL : Nat} {ret : Option FieldType} {hh : List (Nat × Nat × Nat × Nat)}
    (hy : plainName y.cls = true) (hw : ws = Cond.codeWith y cc maxL ret hh :: ws')
    (body : ∀ p e s m args below meth c s₁, BodyLoose p l y (headSpec ws rm) cc maxL ret e s m args below meth c s₁ → c.maxLocals = maxL → Pc args s →
      W p l e (headSpec ws rm).room s m args below meth c s.heap [] 0 0 (vx_MQ below Qc XC args s mc ms free) (entryFrame m args maxL)) : vx_Met l y ws rm Pc Qc XC mc ms free := by
  refine MetFree.of_bodyS (code := cc) (maxLocals := maxL) (ret := ret) hy ?_ ?_
  · intro args s m h hn
    obtain ⟨m9, meth, c, hn9, h1, h2, h3, h4, -, h5, h6, -⟩ := Cond.codeWith_spec (atoms_spec (ws := ws) h _ (by rw [hw]; exact List.mem_cons_self))
    cases hn.symm.trans hn9
    exact ⟨meth, c, h1, h2, h3, h4, h5, h6⟩
  · intro p e s m args below meth c s₁ B hml hP _
    have hh0 : s₁.heap = s.heap := by rw [B.state]; rfl
    obtain ⟨t, a1, o, b1, b2, b3⟩ := body p e s m args below meth c s₁ B hml hP s₁ hh0 (Stand.of_body B)
    exact ⟨t, o, a1, b1, b2, b3⟩
/-! ===== END ===== -/

/-! ===== BEGIN what the machine throws by itself, no traces kept ===== -/
section VXM
set_option maxHeartbeats 1000000 in
/-- the machine throws cls with the message text, no traces kept: from its note over the frame g to 'throwing' over the same frame (follows the proofs of Stand.vmThrowsMessage, Shelf/KitTracedVmS.lean, and Stand.throwsMessageColdBareV, StandMessageColdV.lean, without the step out of the frame) -/
theorem vx_vmAt {p : Program} {l : Launch} {e : Env} {R : Room} {s : State} {m₀ : MethodId} {args : Array Value} {below : List Frame} {meth : Method} {c : Code} {W : State} {locs : List Loc} {cells slots : Nat}
    (X : Stand p l e R s m₀ args below meth c W locs cells slots) (hexec : p.tables.exec = Jvm.exec) (htr : e.platform.stackTraces = false) {cls : String} {names : List String} {text : String}
    (hcls : Bundle.fit cls = true) (hnames : ∀ n ∈ names, Bundle.fit n = true) (hsoe : (cls == "java/lang/StackOverflowError") = false) (hoom : (cls == "java/lang/OutOfMemoryError") = false)
    (h : ∀ a ∈ Bundle.messageArmAtoms cls names, a.before args s = true)
    (hlocs : ∀ x ∈ locs, ∀ cell, s.heap[x.base]? = some cell → cell.vm.isStatics = false)
    (htext : (text == notModelled) = false) (hlimit : ¬ (stringBytes (stringToUtf16 text)).size > e.platform.arrayLengthLimit) (hheap : ¬ (stringBytes (stringToUtf16 text)).size * componentBytes .byte > e.platform.maxHeapBytes)
    {g : JFrame} (hg : g.method = m₀) (hsize : g.locals.size = c.maxLocals)
    (hRframes : names.length + 4 < R.frames) (hRlocals : 2 * g.monitorRoom + (g.stack.map fun v => v.category).sum + 10240 ≤ R.locals) (hshort : 13 * names.length + 55 ≤ 10240)
    (hRcells : cells + 3 ≤ R.cells) (hRslots : slots + ((stringBytes (stringToUtf16 text)).size + 4 + 6) ≤ R.slots) (hlocks : meth.locks = false) :
    ∃ (S : State) (q : Addr) (ce : Cell), (∀ target, Steps p.tables e below ((S.setTop g).pushFrame (.throwing q)) target → Steps p.tables e below ((W.setTop g).pushFrame (.throwNew cls (some text) none)) target) ∧
      Stand p l e R s m₀ args below meth c S locs (cells + 3) (slots + ((stringBytes (stringToUtf16 text)).size + 4 + 6)) ∧ S.heap[q]? = some ce ∧ s.vm.findClass cls = some ce.cls ∧ ce.vm = .none := by
  have howns : e.platform.frameOwnsMonitors = true := by rw [X.admits.platform]
  have hfin : e.platform.finalization = false := by rw [X.admits.platform]
  have hpl : e.platform.magicAccessors = ({} : Platform).magicAccessors := by rw [X.admits.platform]
  have a : ∀ x, x ∈ Bundle.messageArmAtoms cls names → x.holds args s none s [] = true := fun x hx => h x hx
  obtain ⟨T, Z0, L, -, Y⟩ := ThrowableC.of_atoms (args := args) howns hfin hpl (fun x hx => h x (by simp [Bundle.messageArmAtoms, hx]))
  obtain ⟨Z, M, LZ, LM, hnZ⟩ := Init0T.ofS_atoms (args := args) hpl L Y (fun x hx => h x (by simp [Bundle.messageArmAtoms, hx]))
  obtain ⟨P1, Ps, hlen, L1, hL, hP1m, hlink1, hlink⟩ := Bundle.chainS (args := args) hpl hnZ names cls hcls hnames (fun x hx => h x (by simp [Bundle.messageArmAtoms, hx]))
  obtain ⟨Zs, LZs, hn4, hfitv, hfitc⟩ := StringT.of_atoms (args := args) (fun x hx => h x (by simp [Bundle.messageArmAtoms, hx]))
  have hfound : s.vm.findClass cls = some P1.m.cls := findClass_of_methodNamed hP1m
  obtain ⟨c1, kX, hc1, hk, hord, -, -, hn6⟩ := Cond.instantiable_spec (a (.instantiable cls 6) (by simp [Bundle.messageArmAtoms]))
  cases Option.some.inj (hc1.symm.trans hfound)
  have hinit := Cond.initialized_spec hfound hk (a (.initialized cls) (by simp [Bundle.messageArmAtoms]))
  have hctor : kX.findMethod "<init>" "(Ljava/lang/String;)V" = some P1.m.idx := findMethod_of_methodNamed hP1m hk
  have hsel0 : selectMethod e.platform s.vm P1.m.cls T.fill0 = .method T.fill0 := by
    obtain ⟨c2, r2, m2, q1, q2, q3, q4, -⟩ := Cond.selects_spec (a (.selects cls Bundle.tFill0 Bundle.tFill0) (by simp [Bundle.messageArmAtoms]))
    cases Option.some.inj (q1.symm.trans hfound)
    cases Option.some.inj (q2.symm.trans (State.methodFound?_of_named Y.fill0 (by decide)))
    cases Option.some.inj (q3.symm.trans Y.fill0)
    rw [Launch.admits_selectMethod X.admits]; exact q4
  have hselF : selectMethod e.platform s.vm P1.m.cls T.fill = .method T.fill := by
    obtain ⟨c2, r2, m2, q1, q2, q3, q4, -⟩ := Cond.selects_spec (a (.selects cls Bundle.tFill Bundle.tFill) (by simp [Bundle.messageArmAtoms]))
    cases Option.some.inj (q1.symm.trans hfound)
    cases Option.some.inj (q2.symm.trans (State.methodFound?_of_named Y.fill (by decide)))
    cases Option.some.inj (q3.symm.trans Y.fill)
    rw [Launch.admits_selectMethod X.admits]; exact q4
  obtain ⟨cellS0, hcS0, hiss⟩ := Y.statics
  obtain ⟨u0, hu0⟩ := Cond.staticRefV Y.unassigned L.unassignedStatic L.statics hcS0 hiss (a (.isRef (.static Bundle.tN "UNASSIGNED_STACK" Bundle.steD)) (by simp [Bundle.messageArmAtoms]))
  obtain ⟨sen, hsen⟩ := Cond.staticRefV Y.sentinel L.sentinelStatic L.statics hcS0 hiss (a (.isRef (.static Bundle.tN "SUPPRESSED_SENTINEL" Bundle.listD)) (by simp [Bundle.messageArmAtoms]))
  obtain ⟨ci198, i198, fB, hk198, hg198, ha198, hsB, -, hnB, htB, hffB⟩ := Cond.ownField (t := .object "java/lang/Object") Y.found L.cls (by decide +kernel) (a (.fieldLink Bundle.tN 198 Bundle.tN "backtrace" "Ljava/lang/Object;") (by simp [Bundle.messageArmAtoms])) (a (.lays Bundle.tN Bundle.tN "backtrace" "Ljava/lang/Object;") (by simp [Bundle.messageArmAtoms])) e.platform hpl
  obtain ⟨cellS, hcS', heS, -, hkeep⟩ := X.same.2.2.2.2.2 T.aS cellS0 hcS0
  have hcellS : W.heap[T.aS]? = some cellS := hcS'
  have hout' : ∀ i, (⟨T.aS, i⟩ : Loc) ∉ locs := fun i hmem => by
    have := hlocs _ hmem cellS0 hcS0
    rw [hiss] at this; cases this
  have hknownS : cellS.vm ≠ .unknown := by
    rw [heS]; intro hu
    rw [show cellS0.vm = .unknown from hu] at hiss
    cases hiss
  have hvU : cellS.slots[T.fUnassigned.slot]? = some u0.v := by rw [hkeep _ (hout' _)]; exact hu0
  have hvSen : cellS.slots[T.fSentinel.slot]? = some sen.v := by rw [hkeep _ (hout' _)]; exact hsen
  obtain ⟨iM, hffM⟩ := Y.msg
  obtain ⟨tyC, dC, hdC, hdnC⟩ := Cond.laysAt hfound hk Y.cause (a (.lays cls Bundle.tN "cause" "Ljava/lang/Throwable;") (by simp [Bundle.messageArmAtoms]))
  obtain ⟨tyS, dS, hdS, hdnS⟩ := Cond.laysAt hfound hk Y.stack (a (.lays cls Bundle.tN "stackTrace" Bundle.steD) (by simp [Bundle.messageArmAtoms]))
  obtain ⟨tyP, dP, hdP, hdnP⟩ := Cond.laysAt hfound hk Y.supp (a (.lays cls Bundle.tN "suppressedExceptions" Bundle.listD) (by simp [Bundle.messageArmAtoms]))
  obtain ⟨tyM, dM, hdM, hdnM⟩ := Cond.laysAt hfound hk hffM (a (.lays cls Bundle.tN "detailMessage" "Ljava/lang/String;") (by simp [Bundle.messageArmAtoms]))
  obtain ⟨tyB, dB, hdB, hdnB⟩ := Cond.laysAt hfound hk hffB (a (.lays cls Bundle.tN "backtrace" "Ljava/lang/Object;") (by simp [Bundle.messageArmAtoms]))
  have bC := Cond.laysApart hdB hdC hdnB hdnC (by rw [hnB, Y.causeName]; decide)
  have bS := Cond.laysApart hdB hdS hdnB hdnS (by rw [hnB, Y.stackName]; decide)
  have bP := Cond.laysApart hdB hdP hdnB hdnP (by rw [hnB, Y.suppName]; decide)
  have hbk : ((preparedCellV T.toThrowableT (freshCell P1.m.cls kX) (W.heap.size + 2) u0 sen).withEntry W.cur).slots[fB.slot]? = some .null := by
    have := fresh_default (c := P1.m.cls) tyB
    rw [htB] at this
    simpa [preparedCellV, Cell.setSlot, Cell.withEntry, Array.getElem?_setIfInBounds, bC, bS, bP, bC.symm, bS.symm, bP.symm, defaultValue] using this
  have tkC := Takes.of_laid (v := .ref (W.heap.size + 2)) hk hord tyC (by rw [Y.causeType]; rfl)
  have tkS := Takes.of_laid (v := u0.v) hk hord tyS (by rw [Y.stackType]; exact fits_refV_array _ u0)
  have tkP := Takes.of_laid (v := sen.v) hk hord tyP (by rw [Y.suppType]; exact fits_refV_object _ sen)
  have tkM := Takes.of_laid (v := .ref (W.heap.size + 1)) hk hord tyM (by rw [Y.msgType]; rfl)
  have hskip : SkipFacts T e.platform s (fun u => u) u0 ((preparedCellV T.toThrowableT (freshCell P1.m.cls kX) (W.heap.size + 2) u0 sen).withEntry W.cur) := ⟨{ ci198 := ci198, i198 := i198, fBack := fB }, ⟨hk198, hg198, ha198, hsB⟩, hbk, fun _ _ => rfl⟩
  have h0 : At W g.method c below := by rw [hg]; exact X.here
  obtain ⟨hbeyond, hfreeW⟩ := X.vmMayThrow hsize (.throwNew cls (some text) none) (fun f hf => by cases hf) rfl hRlocals
  have hfr' : W.frames.length + Ps.length + 4 < (e.platform.stackLimits W.me).1 := by have := X.framesAbove hRframes; omega
  have hwd' : (stackUse (.java g :: W.frames.tail)).2 + 13 * Ps.length + 55 ≤ (e.platform.stackLimits W.me).2 := by have := X.stackAbove hsize (K := 13 * Ps.length + 55) (by omega); omega
  have hslots : W.slotsUsed + (stringBytes (stringToUtf16 text)).size + Zs.kS.instanceTypes.size + kX.instanceTypes.size ≤ e.platform.maxSlots := by
    have := X.slotsAbove hRslots
    rw [hn4, hn6]
    omega
  obtain ⟨vm', hW', st⟩ := Steps.vmThrowsMessageColdByV p (s₀ := s) (S := W) (g := g) h0 hexec T L Z LZ M LM X.warmed (t := W.cur) rfl Zs LZs P1 L1 Ps hL hlink1 hlink hsoe hoom hfound hk hinit hord hctor
    (Launch.admits_hotImplicitExceptions X.admits) hbeyond hfreeW htext hlimit hheap (X.cellsAbove hRcells) hslots (hfitv _) (hfitc _)
    (Nn := fun u => u) heapOnly_id (fun _ _ => rfl) (fun _ => rfl) (fun u x y => setCell_twice _ _ _ _) (fun _ => Nat.le_refl _) (cN := ((preparedCellV T.toThrowableT (freshCell P1.m.cls kX) (W.heap.size + 2) u0 sen).withEntry W.cur))
    hsel0 hcellS hknownS hvU tkS (fun _ hu => hu) (fun _ hu => hu) rfl rfl rfl (by simp [preparedCellV, Cell.setSlot, Cell.withEntry]) hskip (fun _ _ hA hW _ hroom _ hrest => L.nativeOff p htr hA hW hroom hrest) hselF hvSen tkC tkP tkM Y.objLocals rfl hfr' hwd'
  rw [plainBareV_eq T.toThrowableT (W.heap.size + 2) u0 sen (.ref (W.heap.size + 1)) W.cur rfl rfl] at st
  obtain ⟨-, -, w3, w4, -, -, -⟩ := withThrown_facts e.platform W Zs text P1.m.cls kX
  have X3 := ((X.pushed (bytesOf Zs.cB (stringToUtf16 text))).pushed (stringAt Zs.cS Zs.kS Zs.fv Zs.fc (stringToUtf16 text) W.heap.size)).pushed (freshCell P1.m.cls kX)
  rw [← withString_eq] at X3
  have X4 := X3.noted hW'
  have ha : (W.heap.size + 2) < ((withThrown W Zs text P1.m.cls kX).setVm vm').heap.size := by show _ < (withThrown W Zs text P1.m.cls kX).heap.size; rw [w3]; omega
  have hcell : ((withThrown W Zs text P1.m.cls kX).setVm vm').heap[(W.heap.size + 2)]? = some (freshCell P1.m.cls kX) := w4
  have X5 := ((((X4.stored hcell T.fCause.slot (.ref (W.heap.size + 2))).storedAgain ha T.fStack.slot u0.v).storedAgain ha T.fSupp.slot sen.v).storedAgain ha T.fStack.slot u0.v).storedAgain ha T.fMsg.slot (.ref (W.heap.size + 1))
  obtain ⟨g₁, hfrM⟩ := X5.frames_eq
  have hU : ((((withThrown W Zs text P1.m.cls kX).setVm vm').setCell (W.heap.size + 2) (plainBareV T.toThrowableT (freshCell P1.m.cls kX) (W.heap.size + 2) u0 sen (.ref (W.heap.size + 1)))).setTop g).pushFrame (.throwing (W.heap.size + 2)) = (((withThrown W Zs text P1.m.cls kX).setVm vm').setCell (W.heap.size + 2) (plainBareV T.toThrowableT (freshCell P1.m.cls kX) (W.heap.size + 2) u0 sen (.ref (W.heap.size + 1)))).setFrames (.throwing (W.heap.size + 2) :: .java g :: below) := by
    rw [State.pushFrame, State.frames_setTop _ hfrM, State.setTop_of_frames _ hfrM, State.setFrames_setFrames]
  have b1 : (bytesOf Zs.cB (stringToUtf16 text)).slots.size = (stringBytes (stringToUtf16 text)).size := by
    rw [(Cell.writeAll_facts _ _).2.2]; simp [bytes0]
  have b2 : (stringAt Zs.cS Zs.kS Zs.fv Zs.fc (stringToUtf16 text) W.heap.size).slots.size = 4 := by simp [string0, Cell.setSlot, hn4]
  have b3 : (freshCell P1.m.cls kX).slots.size = 6 := by simp [hn6]
  rw [b1, b2, b3] at X5
  have e9 : slots + (stringBytes (stringToUtf16 text)).size + 4 + 6 = slots + ((stringBytes (stringToUtf16 text)).size + 4 + 6) := by omega
  rw [e9] at X5
  simp only [List.append_assoc, List.cons_append, List.nil_append] at X5
  refine ⟨((withThrown W Zs text P1.m.cls kX).setVm vm').setCell (W.heap.size + 2) (plainBareV T.toThrowableT (freshCell P1.m.cls kX) (W.heap.size + 2) u0 sen (.ref (W.heap.size + 1))), W.heap.size + 2, _, fun target ht => st _ (by rw [X.tail, ← hU]; exact ht),
    X5.forget (fun y hy => ?_), heapAt_setCell_self _ ha, hfound, rfl⟩
  simp only [List.mem_cons, List.not_mem_nil, or_false] at hy
  have hge : s.heap.size ≤ W.heap.size := X.same.2.1
  rcases hy with rfl | rfl | rfl | rfl | rfl <;> exact Nat.le_trans hge (Nat.le_add_right _ 2)
set_option maxHeartbeats 1000000 in
/-- the machine throws NullPointerException, no traces kept: from its note over the frame g to 'throwing' over the same frame (follows the proof of Stand.vmThrowsNpe, Shelf42/KT2.lean; throwsNpeColdBareVAt, Shelf42/NT91.lean, called) -/
theorem vx_npeAt {p : Program} {l : Launch} {e : Env} {R : Room} {s : State} {m₀ : MethodId} {args : Array Value} {below : List Frame} {meth : Method} {c : Code} {W : State} {locs : List Loc} {cells slots : Nat}
    (X : Stand p l e R s m₀ args below meth c W locs cells slots) (hexec : p.tables.exec = Jvm.exec) (htr : e.platform.stackTraces = false) {n : Nat}
    (h : ∀ a ∈ Bundle.npeArmAtoms n, a.before args s = true)
    (hlocs : ∀ x ∈ locs, ∀ cell, s.heap[x.base]? = some cell → cell.vm.isStatics = false)
    {g : JFrame} (hg : g.method = m₀) (hsize : g.locals.size = c.maxLocals)
    (hRframes : 7 < R.frames) (hRlocals : 2 * g.monitorRoom + (g.stack.map fun v => v.category).sum + 10240 ≤ R.locals)
    (hRcells : cells + 1 ≤ R.cells) (hRslots : slots + n ≤ R.slots) (hlocks : meth.locks = false) :
    ∃ (S : State) (q : Addr) (ce : Cell), (∀ target, Steps p.tables e below ((S.setTop g).pushFrame (.throwing q)) target → Steps p.tables e below ((W.setTop g).pushFrame (.throwNew "java/lang/NullPointerException" none none)) target) ∧
      Stand p l e R s m₀ args below meth c S locs (cells + 1) (slots + n) ∧ S.heap[q]? = some ce ∧ s.vm.findClass "java/lang/NullPointerException" = some ce.cls ∧ ce.vm = .none := by
  have howns : e.platform.frameOwnsMonitors = true := by rw [X.admits.platform]
  have hfin : e.platform.finalization = false := by rw [X.admits.platform]
  have hpl : e.platform.magicAccessors = ({} : Platform).magicAccessors := by rw [X.admits.platform]
  have hpl2 : e.platform.arrayCloneIsPublic = true := by rw [X.admits.platform]
  have a' : ∀ x, x ∈ Bundle.npeArmAtoms n → x.holds args s none s [] = true := fun x hx => h x hx
  obtain ⟨T, Z, L, LZ, Y⟩ := ThrowableC.of_atoms (args := args) howns hfin hpl (fun x hx => h x (by simp [Bundle.npeArmAtoms, hx]))
  obtain ⟨N, LN, hcN, hnNF, hordN, hffS⟩ := NpeC.of_atoms (args := args) hpl hpl2 L Y (fun x hx => h x (by simp [Bundle.npeArmAtoms, hx]))
  obtain ⟨P1, L1, hP1m, hP1s⟩ := PassC.of_atoms (args := args) (s := s) hpl (X := Bundle.nN) (Y := Bundle.rN) (by decide) (by decide) LibCode.NullPointerException.Init0.at_0 LibCode.NullPointerException.Init0.at_1 LibCode.NullPointerException.Init0.at_4 (fun x hx => h x (by simp [Bundle.npeArmAtoms, hx]))
  obtain ⟨PR, LR, hPRm, hPRs⟩ := PassC.of_atoms (args := args) (s := s) hpl (X := Bundle.rN) (Y := Bundle.eN) (by decide) (by decide) LibCode.RuntimeException.Init0.at_0 LibCode.RuntimeException.Init0.at_1 LibCode.RuntimeException.Init0.at_4 (fun x hx => h x (by simp [Bundle.npeArmAtoms, hx]))
  obtain ⟨PE, LEx, hPEm, hPEs⟩ := PassC.of_atoms (args := args) (s := s) hpl (X := Bundle.eN) (Y := Bundle.tN) (by decide) (by decide) LibCode.Exception.Init0.at_0 LibCode.Exception.Init0.at_1 LibCode.Exception.Init0.at_4 (fun x hx => h x (by simp [Bundle.npeArmAtoms, hx]))
  have hfound : s.vm.findClass Bundle.nN = some P1.m.cls := findClass_of_methodNamed hP1m
  have ecls : N.cN = P1.m.cls := Option.some.inj (hcN.symm.trans hfound)
  have hk : s.vm.classes[P1.m.cls]? = some N.kN := by rw [← ecls]; exact LN.cls
  have hinit := Cond.initialized_spec hfound hk (a' (.initialized Bundle.nN) (by simp [Bundle.npeArmAtoms]))
  have hctor : N.kN.findMethod "<init>" "()V" = some P1.m.idx := findMethod_of_methodNamed hP1m hk
  obtain ⟨c1, k1, hc1, hk1, -, -, -, hn⟩ := Cond.instantiable_spec (a' (.instantiable Bundle.nN n) (by simp [Bundle.npeArmAtoms]))
  cases Option.some.inj (hc1.symm.trans hfound)
  cases Option.some.inj (hk1.symm.trans hk)
  have hfsz : (freshCell P1.m.cls N.kN).slots.size = n := by simp [hn]
  have hlink1 : P1.sup = PR.m := Option.some.inj (hP1s.symm.trans hPRm)
  have hlinkR : PR.sup = PE.m := Option.some.inj (hPRs.symm.trans hPEm)
  have hlinkE : PE.sup = Z.m T.toThrowableT := Option.some.inj (hPEs.symm.trans Y.init0)
  have hLs : ∀ P, P ∈ [PR, PE] → P.Links0 e.platform s := fun P hP => by
    simp only [List.mem_cons, List.not_mem_nil, or_false] at hP
    rcases hP with rfl | rfl
    · exact LR
    · exact LEx
  have hsel0 : selectMethod e.platform s.vm P1.m.cls T.fill0 = .method T.fill0 := by
    obtain ⟨c2, r2, m2, q1, q2, q3, q4, -⟩ := Cond.selects_spec (a' (.selects Bundle.nN Bundle.tFill0 Bundle.tFill0) (by simp [Bundle.npeArmAtoms]))
    cases Option.some.inj (q1.symm.trans hfound)
    cases Option.some.inj (q2.symm.trans (State.methodFound?_of_named Y.fill0 (by decide)))
    cases Option.some.inj (q3.symm.trans Y.fill0)
    rw [Launch.admits_selectMethod X.admits]; exact q4
  have hselF : selectMethod e.platform s.vm P1.m.cls T.fill = .method N.fill := by
    obtain ⟨c2, r2, m2, q1, q2, q3, q4, -⟩ := Cond.selects_spec (a' (.selects Bundle.nN Bundle.tFill Bundle.nFill) (by simp [Bundle.npeArmAtoms]))
    cases Option.some.inj (q1.symm.trans hfound)
    cases Option.some.inj (q2.symm.trans (State.methodFound?_of_named Y.fill (by decide)))
    cases Option.some.inj (q3.symm.trans hnNF)
    rw [Launch.admits_selectMethod X.admits]; exact q4
  obtain ⟨cellS0, hcS0, hiss⟩ := Y.statics
  obtain ⟨u0, hu0⟩ := Cond.staticRefV Y.unassigned L.unassignedStatic L.statics hcS0 hiss (a' (.isRef (.static Bundle.tN "UNASSIGNED_STACK" Bundle.steD)) (by simp [Bundle.npeArmAtoms]))
  obtain ⟨sen, hsen⟩ := Cond.staticRefV Y.sentinel L.sentinelStatic L.statics hcS0 hiss (a' (.isRef (.static Bundle.tN "SUPPRESSED_SENTINEL" Bundle.listD)) (by simp [Bundle.npeArmAtoms]))
  obtain ⟨ci198, i198, fB, hk198, hg198, ha198, hsB, -, hnB, htB, hffB⟩ := Cond.ownField (t := .object "java/lang/Object") Y.found L.cls (by decide +kernel) (a' (.fieldLink Bundle.tN 198 Bundle.tN "backtrace" Bundle.objD) (by simp [Bundle.npeArmAtoms])) (a' (.lays Bundle.tN Bundle.tN "backtrace" Bundle.objD) (by simp [Bundle.npeArmAtoms])) e.platform hpl
  obtain ⟨cellS, hcS', heS, -, hkeep⟩ := X.same.2.2.2.2.2 T.aS cellS0 hcS0
  have hcellS : W.heap[T.aS]? = some cellS := hcS'
  have hout' : ∀ i, (⟨T.aS, i⟩ : Loc) ∉ locs := fun i hmem => by
    have := hlocs _ hmem cellS0 hcS0
    rw [hiss] at this; cases this
  have hknownS : cellS.vm ≠ .unknown := by
    rw [heS]; intro hu
    rw [show cellS0.vm = .unknown from hu] at hiss
    cases hiss
  have hvU : cellS.slots[T.fUnassigned.slot]? = some u0.v := by rw [hkeep _ (hout' _)]; exact hu0
  have hvSen : cellS.slots[T.fSentinel.slot]? = some sen.v := by rw [hkeep _ (hout' _)]; exact hsen
  obtain ⟨tyC, dC, hdC, hdnC⟩ := Cond.laysAt hfound hk Y.cause (a' (.lays Bundle.nN Bundle.tN "cause" "Ljava/lang/Throwable;") (by simp [Bundle.npeArmAtoms]))
  obtain ⟨tyS, dS, hdS, hdnS⟩ := Cond.laysAt hfound hk Y.stack (a' (.lays Bundle.nN Bundle.tN "stackTrace" Bundle.steD) (by simp [Bundle.npeArmAtoms]))
  obtain ⟨tyP, dP, hdP, hdnP⟩ := Cond.laysAt hfound hk Y.supp (a' (.lays Bundle.nN Bundle.tN "suppressedExceptions" Bundle.listD) (by simp [Bundle.npeArmAtoms]))
  obtain ⟨tyX, dX, hdX, hdnX⟩ := Cond.laysAt hfound hk hffS (a' (.lays Bundle.nN Bundle.nN "extendedMessageState" "I") (by simp [Bundle.npeArmAtoms, Bundle.npeAtoms]))
  obtain ⟨hnX, htX⟩ := State.fieldFound?_type hffS (t := .int) (by decide +kernel)
  have xC := Cond.laysApart hdC hdX hdnC hdnX (by rw [hnX, Y.causeName]; decide)
  have xS := Cond.laysApart hdS hdX hdnS hdnX (by rw [hnX, Y.stackName]; decide)
  have xP := Cond.laysApart hdP hdX hdnP hdnX (by rw [hnX, Y.suppName]; decide)
  have hv0 : (freshCell P1.m.cls N.kN).slots[N.fState.slot]? = some (.int 0) := by
    have := fresh_default (c := P1.m.cls) tyX
    rw [htX] at this; exact this
  obtain ⟨tyB, dB, hdB, hdnB⟩ := Cond.laysAt hfound hk hffB (a' (.lays Bundle.nN Bundle.tN "backtrace" Bundle.objD) (by simp [Bundle.npeArmAtoms]))
  have bC := Cond.laysApart hdB hdC hdnB hdnC (by rw [hnB, Y.causeName]; decide)
  have bS := Cond.laysApart hdB hdS hdnB hdnS (by rw [hnB, Y.stackName]; decide)
  have bP := Cond.laysApart hdB hdP hdnB hdnP (by rw [hnB, Y.suppName]; decide)
  have bX := Cond.laysApart hdB hdX hdnB hdnX (by rw [hnB, hnX]; decide)
  have hbk : ((npeCell N.toNpeT (preparedCellV T.toThrowableT (freshCell P1.m.cls N.kN) W.heap.size u0 sen) W.cur).withEntry W.cur).slots[fB.slot]? = some .null := by
    have := fresh_default (c := P1.m.cls) tyB
    rw [htB] at this
    simpa [npeCell, preparedCellV, Cell.setSlot, Cell.withEntry, Array.getElem?_setIfInBounds, bC, bS, bP, bX, bC.symm, bS.symm, bP.symm, bX.symm, defaultValue] using this
  have tkC := Takes.of_laid (v := .ref W.heap.size) hk hordN tyC (by rw [Y.causeType]; rfl)
  have tkS := Takes.of_laid (v := u0.v) hk hordN tyS (by rw [Y.stackType]; exact fits_refV_array _ u0)
  have tkP := Takes.of_laid (v := sen.v) hk hordN tyP (by rw [Y.suppType]; exact fits_refV_object _ sen)
  have tkX := Takes.of_laid (v := .int 1) hk hordN tyX (by rw [htX]; rfl)
  have hskip : SkipFacts T e.platform s (fun u => u) u0 ((npeCell N.toNpeT (preparedCellV T.toThrowableT (freshCell P1.m.cls N.kN) W.heap.size u0 sen) W.cur).withEntry W.cur) := ⟨{ ci198 := ci198, i198 := i198, fBack := fB }, ⟨hk198, hg198, ha198, hsB⟩, hbk, fun _ _ => rfl⟩
  obtain ⟨vm', X3, st, -⟩ := X.throwsNpeColdBareVAt hexec hg hsize T L Z LZ N LN P1 L1 [PR, PE] hLs hlink1 ⟨hlinkR, hlinkE, trivial⟩ hfound hk hinit hordN hctor hsel0 hselF hcellS hknownS hvU hvSen
    hv0 xC xS xP tkC tkS tkP tkX Y.objLocals hskip (fun _ _ hA hW _ hroom _ hrest => L.nativeOff p htr hA hW hroom hrest) (by simpa using hRframes) hRlocals (by simp) hRcells (by rw [hn]; exact hRslots)
  have hlt : W.heap.size < ((W.pushCell (freshCell P1.m.cls N.kN)).setVm vm').heap.size := by
    show W.heap.size < (W.pushCell (freshCell P1.m.cls N.kN)).heap.size
    rw [State.heap_size_pushCell]; omega
  rw [hfsz] at X3
  obtain ⟨g₁, hfrM⟩ := X3.frames_eq
  have hU : ((((W.pushCell (freshCell P1.m.cls N.kN)).setVm vm').setCell W.heap.size (npeBareV T.toThrowableT N.toNpeT (freshCell P1.m.cls N.kN) W.heap.size u0 sen)).setTop g).pushFrame (.throwing W.heap.size) = (((W.pushCell (freshCell P1.m.cls N.kN)).setVm vm').setCell W.heap.size (npeBareV T.toThrowableT N.toNpeT (freshCell P1.m.cls N.kN) W.heap.size u0 sen)).setFrames (.throwing W.heap.size :: .java g :: below) := by
    rw [State.pushFrame, State.frames_setTop _ hfrM, State.setTop_of_frames _ hfrM, State.setFrames_setFrames]
  refine ⟨_, W.heap.size, _, fun target ht => st.trans (by rw [← hU]; exact ht), X3.forget (fun y hy => ?_), heapAt_setCell_self _ hlt, hfound, rfl⟩
  simp only [List.mem_cons, List.not_mem_nil, or_false] at hy
  have hge : s.heap.size ≤ W.heap.size := X.same.2.1
  rcases hy with rfl | rfl | rfl | rfl | rfl <;> exact hge
/-- the words of a machine's NullPointerException, but the four that speak of the heap -/
def vx_atN (n : Nat) : List Cond := (Bundle.npeArmAtoms n).filter vx_no
/-- the words of a machine's throw with a message, but the four that speak of the heap -/
def vx_atM (X : String) (names : List String) : List Cond := (Bundle.messageArmAtoms X names).filter vx_no
section
variable {p : Program} {l : Launch} {e : Env} {R : Room} {s : State} {m : MethodId} {args : Array Value} {below : List Frame} {meth : Method} {c : Code} {H : Heap} {locs : List Loc} {cells slots : Nat}
/-- a frame seen from a rebased start, seen from the first start again -/
theorem vx_back9 {T S : State} {R' : Room} {k n : Nat} (X : Stand p l e R s m args below meth c T locs cells slots) (Y : Stand p l e R' ((T.setVm s.vm).setFrames (.invoking m args :: below)) m args below meth c T [] 0 0) (Z : Stand p l e R' ((T.setVm s.vm).setFrames (.invoking m args :: below)) m args below meth c S [] k n) :
    Stand p l e R s m args below meth c S locs (cells + k) (slots + n) := by
  have hW0 : s.WarmedH ((T.setVm s.vm).setFrames (.invoking m args :: below)).vm := State.WarmedH.refl s
  refine { admits := X.admits, cas := X.cas, clock := X.clock, frames := X.frames, room := X.room, hears := X.hears, method := X.method, code := X.code, here := Z.here, tail := Z.tail, warmed := State.WarmedH.trans hW0 Z.warmed, limits := Z.limits.trans (Y.limits.symm.trans X.limits), bytes := Z.bytes.trans (Y.bytes.symm.trans X.bytes), same := ?_ }
  obtain ⟨e1, e2⟩ := Z.same
  rw [State.setFrames_setFrames] at e1
  have h2 : (T.setVm s.vm).sameButNew (S.setVm s.vm) [] k n := ⟨e1, e2⟩
  have h3 := X.same.trans h2
  rw [List.append_nil] at h3
  exact h3
/-- from the machine's note that E is thrown here with this text -/
def vx_Note (p : Program) (l : Launch) (e : Env) (R : Room) (s : State) (m : MethodId) (args : Array Value) (below : List Frame) (meth : Method) (c : Code) (H : Heap) (locs : List Loc) (cells slots : Nat) (Q : State → Prop) (g : JFrame) (E text : String) : Prop :=
  ∀ T : State, T.heap = H → Stand p l e R s m args below meth c T locs cells slots → ∃ t, Steps p.tables e below ((T.setTop g).pushFrame (.throwNew E (some text) none)) t ∧ Q t
theorem vx_vm {pc : Nat} {ls : Array Slot} {rest : List Value} {Q : State → Prop} (hexec : p.tables.exec = Jvm.exec) (hl : l.stackTraces = false) {cls text : String} {names : List String} {nb : Nat} {A : Nat → Prop}
    (hcls : Bundle.fit cls = true) (hnames : ∀ n ∈ names, Bundle.fit n = true) (hsoe : (cls == "java/lang/StackOverflowError") = false) (hoom : (cls == "java/lang/OutOfMemoryError") = false)
    (hat : ∀ w ∈ vx_atM cls names, w.before args s = true) (hgood : ∀ w ∈ vx_atM cls names, vx_ot w = true)
    (hU : vx_Zq Bundle.tN "UNASSIGNED_STACK" Bundle.steD A s s.heap) (hN : vx_Zq Bundle.tN "SUPPRESSED_SENTINEL" Bundle.listD A s s.heap) (hS : va_S A s.heap H locs) (hsize : ls.size = c.maxLocals)
    (htext : (text == notModelled) = false) (hnb : (stringBytes (stringToUtf16 text)).size ≤ nb) (hnb1 : nb ≤ 1000)
    (hRframes : names.length + 4 < R.frames) (hRlocals : (rest.map fun v => v.category).sum + 10240 ≤ R.locals) (hshort : 13 * names.length + 55 ≤ 10240) (hRcells : cells + 3 ≤ R.cells) (hRslots : slots + (nb + 10) ≤ R.slots) (hlocks : meth.locks = false)
    (k : ∀ (H1 : Heap) (q9 : Addr) (ce : Cell), H.size ≤ H1.size → (∀ q : Nat, q < H.size → H1[q]? = H[q]?) → va_S A s.heap H1 locs → H1[q9]? = some ce → ce.vm = .none → s.vm.findClass cls = some ce.cls → vx_W p l e R s m args below meth c H1 locs (cells + 3) (slots + (nb + 10)) Q (F0 m pc ls rest) q9) :
    vx_Note p l e R s m args below meth c H locs cells slots Q (F0 m pc ls rest) cls text := by
  intro T hT X
  have htr : e.platform.stackTraces = false := (show e.platform.stackTraces = l.stackTraces by rw [X.admits.platform]).trans hl
  have Y := vx_rebase X (R' := { frames := R.frames, locals := R.locals, cells := 3, slots := nb + 10 }) (Nat.le_refl _) (Nat.le_refl _) hRcells hRslots
  have hhp : ((T.setVm s.vm).setFrames (.invoking m args :: below)).heap = H := hT
  have hW0 : s.WarmedH ((T.setVm s.vm).setFrames (.invoking m args :: below)).vm := State.WarmedH.refl s
  have hat' : ∀ w ∈ vx_atM cls names, w.before args ((T.setVm s.vm).setFrames (.invoking m args :: below)) = true := fun w hw => vx_ot_at hW0 rfl (hgood w hw) (hat w hw)
  have hU' : vx_Zq Bundle.tN "UNASSIGNED_STACK" Bundle.steD A ((T.setVm s.vm).setFrames (.invoking m args :: below)) ((T.setVm s.vm).setFrames (.invoking m args :: below)).heap := by rw [hhp]; exact vx_Zq.moved hW0.alike (hU.kept hS.2.1)
  have hN' : vx_Zq Bundle.tN "SUPPRESSED_SENTINEL" Bundle.listD A ((T.setVm s.vm).setFrames (.invoking m args :: below)) ((T.setVm s.vm).setFrames (.invoking m args :: below)).heap := by rw [hhp]; exact vx_Zq.moved hW0.alike (hN.kept hS.2.1)
  obtain ⟨S, q, ce, st, Z, hce, hcl', hv⟩ := vx_vmAt Y hexec htr (cls := cls) (names := names) (text := text) hcls hnames hsoe hoom (vx_own hat' (vx_isRefq hU'.1) (vx_isRefq hN'.1) hU'.2.word hN'.2.word) (fun x hx => nomatch hx) htext
    (by rw [Launch.admits_arrayLengthLimit X.admits]; omega) (by rw [Launch.admits_maxHeapBytes X.admits]; simp only [componentBytes]; omega)
    (g := F0 m pc ls rest) rfl hsize hRframes (by show 2 * 0 + (rest.map fun v => v.category).sum + 10240 ≤ R.locals; omega) hshort (by show 0 + 3 ≤ 3; omega) (by show 0 + (_ + 4 + 6) ≤ nb + 10; omega) hlocks
  obtain ⟨f1, f2⟩ := vx_frame Z.same
  have f1' : H.size ≤ S.heap.size := by rw [← hT]; exact f1
  have f2' : ∀ q : Nat, q < H.size → S.heap[q]? = H[q]? := fun q hq => by
    rw [← hT]
    exact f2 q (by rw [← hT] at hq; exact hq) (fun z hz => nomatch hz)
  have X5 := vx_back9 X Y Z
  have X6 : Stand p l e R s m args below meth c S locs (cells + 3) (slots + (nb + 10)) := { X5 with same := X5.same.mono (by omega) (by omega) }
  obtain ⟨t, a1, b1⟩ := k S.heap q ce f1' f2' ⟨Nat.le_trans hS.1 f1', fun q h1 h2 => (f2' q (Nat.lt_of_lt_of_le h1 hS.1)).trans (hS.2.1 q h1 h2), hS.2.2⟩ hce hv hcl' S rfl X6
  exact ⟨t, st t a1, b1⟩
/-- from the machine's note that NullPointerException is thrown here -/
def vx_NoteN (p : Program) (l : Launch) (e : Env) (R : Room) (s : State) (m : MethodId) (args : Array Value) (below : List Frame) (meth : Method) (c : Code) (H : Heap) (locs : List Loc) (cells slots : Nat) (Q : State → Prop) (g : JFrame) : Prop :=
  ∀ T : State, T.heap = H → Stand p l e R s m args below meth c T locs cells slots → ∃ t, Steps p.tables e below ((T.setTop g).pushFrame (.throwNew "java/lang/NullPointerException" none none)) t ∧ Q t
theorem vx_npe {pc : Nat} {ls : Array Slot} {rest : List Value} {Q : State → Prop} (hexec : p.tables.exec = Jvm.exec) (hl : l.stackTraces = false) {nb : Nat} {A : Nat → Prop}
    (hat : ∀ w ∈ vx_atN nb, w.before args s = true) (hgood : ∀ w ∈ vx_atN nb, vx_ot w = true)
    (hU : vx_Zq Bundle.tN "UNASSIGNED_STACK" Bundle.steD A s s.heap) (hN : vx_Zq Bundle.tN "SUPPRESSED_SENTINEL" Bundle.listD A s s.heap) (hS : va_S A s.heap H locs) (hsize : ls.size = c.maxLocals)
    (hRframes : 7 < R.frames) (hRlocals : (rest.map fun v => v.category).sum + 10240 ≤ R.locals) (hRcells : cells + 1 ≤ R.cells) (hRslots : slots + nb ≤ R.slots) (hlocks : meth.locks = false)
    (k : ∀ (H1 : Heap) (q9 : Addr) (ce : Cell), H.size ≤ H1.size → (∀ q : Nat, q < H.size → H1[q]? = H[q]?) → va_S A s.heap H1 locs → H1[q9]? = some ce → ce.vm = .none → s.vm.findClass "java/lang/NullPointerException" = some ce.cls → vx_W p l e R s m args below meth c H1 locs (cells + 1) (slots + nb) Q (F0 m pc ls rest) q9) :
    vx_NoteN p l e R s m args below meth c H locs cells slots Q (F0 m pc ls rest) := by
  intro T hT X
  have htr : e.platform.stackTraces = false := (show e.platform.stackTraces = l.stackTraces by rw [X.admits.platform]).trans hl
  have Y := vx_rebase X (R' := { frames := R.frames, locals := R.locals, cells := 1, slots := nb }) (Nat.le_refl _) (Nat.le_refl _) hRcells hRslots
  have hhp : ((T.setVm s.vm).setFrames (.invoking m args :: below)).heap = H := hT
  have hW0 : s.WarmedH ((T.setVm s.vm).setFrames (.invoking m args :: below)).vm := State.WarmedH.refl s
  have hat' : ∀ w ∈ vx_atN nb, w.before args ((T.setVm s.vm).setFrames (.invoking m args :: below)) = true := fun w hw => vx_ot_at hW0 rfl (hgood w hw) (hat w hw)
  have hU' : vx_Zq Bundle.tN "UNASSIGNED_STACK" Bundle.steD A ((T.setVm s.vm).setFrames (.invoking m args :: below)) ((T.setVm s.vm).setFrames (.invoking m args :: below)).heap := by rw [hhp]; exact vx_Zq.moved hW0.alike (hU.kept hS.2.1)
  have hN' : vx_Zq Bundle.tN "SUPPRESSED_SENTINEL" Bundle.listD A ((T.setVm s.vm).setFrames (.invoking m args :: below)) ((T.setVm s.vm).setFrames (.invoking m args :: below)).heap := by rw [hhp]; exact vx_Zq.moved hW0.alike (hN.kept hS.2.1)
  obtain ⟨S, q, ce, st, Z, hce, hcl', hv⟩ := vx_npeAt Y hexec htr (n := nb) (vx_own hat' (vx_isRefq hU'.1) (vx_isRefq hN'.1) hU'.2.word hN'.2.word) (fun x hx => nomatch hx)
    (g := F0 m pc ls rest) rfl hsize hRframes (by show 2 * 0 + (rest.map fun v => v.category).sum + 10240 ≤ R.locals; omega) (by show 0 + 1 ≤ 1; omega) (by show 0 + nb ≤ nb; omega) hlocks
  obtain ⟨f1, f2⟩ := vx_frame Z.same
  have f1' : H.size ≤ S.heap.size := by rw [← hT]; exact f1
  have f2' : ∀ q : Nat, q < H.size → S.heap[q]? = H[q]? := fun q hq => by
    rw [← hT]
    exact f2 q (by rw [← hT] at hq; exact hq) (fun z hz => nomatch hz)
  have X5 := vx_back9 X Y Z
  have X6 : Stand p l e R s m args below meth c S locs (cells + 1) (slots + nb) := { X5 with same := X5.same.mono (by omega) (by omega) }
  obtain ⟨t, a1, b1⟩ := k S.heap q ce f1' f2' ⟨Nat.le_trans hS.1 f1', fun q h1 h2 => (f2' q (Nat.lt_of_lt_of_le h1 hS.1)).trans (hS.2.1 q h1 h2), hS.2.2⟩ hce hv hcl' S rfl X6
  exact ⟨t, st t a1, b1⟩
variable {Q : State → Prop} {cc : ByteArray} {pc : Nat} {ls : Array Slot} {rest : List Value}
theorem vx_idivZ (hexec : p.tables.exec = Jvm.exec) (hb : c.code = cc) {a b : Int32} (h0 : b = 0) (d : decode cc pc = .ok (.idiv, 1)) (k : vx_Note p l e R s m args below meth c H locs cells slots Q (F0 m pc ls rest) "java/lang/ArithmeticException" "/ by zero") :
    W p l e R s m args below meth c H locs cells slots Q (F0 m pc ls (.int b :: .int a :: rest)) := by
  intro T hT X
  obtain ⟨t, st, q⟩ := k T hT X
  exact ⟨t, X.idivZero hexec (g := F0 m pc ls (.int b :: .int a :: rest)) rfl (a := a) (rest := rest) (by rw [h0]) (by rw [hb]; exact d) t st, q⟩
theorem vx_iremZ (hexec : p.tables.exec = Jvm.exec) (hb : c.code = cc) {a b : Int32} (h0 : b = 0) (d : decode cc pc = .ok (.irem, 1)) (k : vx_Note p l e R s m args below meth c H locs cells slots Q (F0 m pc ls rest) "java/lang/ArithmeticException" "/ by zero") :
    W p l e R s m args below meth c H locs cells slots Q (F0 m pc ls (.int b :: .int a :: rest)) := by
  intro T hT X
  obtain ⟨t, st, q⟩ := k T hT X
  exact ⟨t, X.iremZero hexec (g := F0 m pc ls (.int b :: .int a :: rest)) rfl (a := a) (rest := rest) (by rw [h0]) (by rw [hb]; exact d) t st, q⟩
theorem vx_ldivZ (hexec : p.tables.exec = Jvm.exec) (hb : c.code = cc) {a b : Int64} (h0 : b = 0) (d : decode cc pc = .ok (.ldiv, 1)) (k : vx_Note p l e R s m args below meth c H locs cells slots Q (F0 m pc ls rest) "java/lang/ArithmeticException" "/ by zero") :
    W p l e R s m args below meth c H locs cells slots Q (F0 m pc ls (.long b :: .long a :: rest)) := by
  intro T hT X
  obtain ⟨t, st, q⟩ := k T hT X
  exact ⟨t, X.ldivZero hexec (g := F0 m pc ls (.long b :: .long a :: rest)) rfl (a := a) (rest := rest) (by rw [h0]) (by rw [hb]; exact d) t st, q⟩
theorem vx_lremZ (hexec : p.tables.exec = Jvm.exec) (hb : c.code = cc) {a b : Int64} (h0 : b = 0) (d : decode cc pc = .ok (.lrem, 1)) (k : vx_Note p l e R s m args below meth c H locs cells slots Q (F0 m pc ls rest) "java/lang/ArithmeticException" "/ by zero") :
    W p l e R s m args below meth c H locs cells slots Q (F0 m pc ls (.long b :: .long a :: rest)) := by
  intro T hT X
  obtain ⟨t, st, q⟩ := k T hT X
  exact ⟨t, X.lremZero hexec (g := F0 m pc ls (.long b :: .long a :: rest)) rfl (a := a) (rest := rest) (by rw [h0]) (by rw [hb]; exact d) t st, q⟩
theorem vx_ialdZ {D : va_G} {cl : List vw_C} {ws : va_W} {tys : List (ClassId × FieldType)} {a : Nat} (hexec : p.tables.exec = Jvm.exec) (hb : c.code = cc) (hK : va_K D cl tys s) (hP : va_P D cl ws H) (q0 t0 : Nat) {cA : ClassId} {n : Nat} {f : Nat → Int32} (ha : ws[q0]? = some (a, .inl (cA, n, .inl f))) (ht : tys[t0]? = some (cA, .int)) {i : Int32} (hout : ¬ vp_in i n) (hdg : decode cc pc = .ok (.iaload, 1))
    (k : ∀ tx : String, tx = (toString "Index " ++ toString i ++ toString " out of bounds for length " ++ toString n : String) → vx_Note p l e R s m args below meth c H locs cells slots Q (F0 m pc ls rest) "java/lang/ArrayIndexOutOfBoundsException" tx) : W p l e R s m args below meth c H locs cells slots Q (F0 m pc ls (.int i :: .ref a :: rest)) := by
  intro T hT X
  obtain ⟨t, st, q⟩ := k _ rfl T hT X
  refine ⟨t, ?_, q⟩
  have h1 := X.ialoadOut hexec (by rw [hT]; exact hP q0 _ ha) ((hK.2 t0 _ ht).1 n (fun j => .int (f j))) (j := i) (by show (i < 0 ∨ (arrV _ _ _).slots.size ≤ _); rw [arrV_size]; exact Classical.byContradiction hout) (g := F0 m pc ls (.int i :: .ref a :: rest)) rfl (rest := rest) rfl (by rw [hb]; exact hdg) t
  simp only [arrV_size] at h1
  exact h1 st
theorem vx_iastZ {D : va_G} {cl : List vw_C} {ws : va_W} {tys : List (ClassId × FieldType)} {a : Nat} (hexec : p.tables.exec = Jvm.exec) (hb : c.code = cc) (hK : va_K D cl tys s) (hP : va_P D cl ws H) (q0 t0 : Nat) {cA : ClassId} {n : Nat} {f : Nat → Int32} (ha : ws[q0]? = some (a, .inl (cA, n, .inl f))) (ht : tys[t0]? = some (cA, .int)) {i : Int32} {x : Int32} (hout : ¬ vp_in i n) (hdg : decode cc pc = .ok (.iastore, 1))
    (k : ∀ tx : String, tx = (toString "Index " ++ toString i ++ toString " out of bounds for length " ++ toString n : String) → vx_Note p l e R s m args below meth c H locs cells slots Q (F0 m pc ls rest) "java/lang/ArrayIndexOutOfBoundsException" tx) : W p l e R s m args below meth c H locs cells slots Q (F0 m pc ls (.int x :: .int i :: .ref a :: rest)) := by
  intro T hT X
  obtain ⟨t, st, q⟩ := k _ rfl T hT X
  refine ⟨t, ?_, q⟩
  have h1 := X.iastoreOut hexec (by rw [hT]; exact hP q0 _ ha) ((hK.2 t0 _ ht).1 n (fun j => .int (f j))) (j := i) (by show (i < 0 ∨ (arrV _ _ _).slots.size ≤ _); rw [arrV_size]; exact Classical.byContradiction hout) (g := F0 m pc ls (.int x :: .int i :: .ref a :: rest)) rfl (rest := rest) rfl (by rw [hb]; exact hdg) t
  simp only [arrV_size] at h1
  exact h1 st
theorem vx_baldZ {D : va_G} {cl : List vw_C} {ws : va_W} {tys : List (ClassId × FieldType)} {a : Nat} (hexec : p.tables.exec = Jvm.exec) (hb : c.code = cc) (hK : va_K D cl tys s) (hP : va_P D cl ws H) (q0 t0 : Nat) {cA : ClassId} {n : Nat} {f : Nat → Int32} (ha : ws[q0]? = some (a, .inl (cA, n, .inl f))) (ht : tys[t0]? = some (cA, .byte)) {i : Int32} (hout : ¬ vp_in i n) (hdg : decode cc pc = .ok (.baload, 1))
    (k : ∀ tx : String, tx = (toString "Index " ++ toString i ++ toString " out of bounds for length " ++ toString n : String) → vx_Note p l e R s m args below meth c H locs cells slots Q (F0 m pc ls rest) "java/lang/ArrayIndexOutOfBoundsException" tx) : W p l e R s m args below meth c H locs cells slots Q (F0 m pc ls (.int i :: .ref a :: rest)) := by
  intro T hT X
  obtain ⟨t, st, q⟩ := k _ rfl T hT X
  refine ⟨t, ?_, q⟩
  have h1 := X.baloadOut hexec (by rw [hT]; exact hP q0 _ ha) ((hK.2 t0 _ ht).1 n (fun j => .int (f j))) (j := i) (by show (i < 0 ∨ (arrV _ _ _).slots.size ≤ _); rw [arrV_size]; exact Classical.byContradiction hout) (g := F0 m pc ls (.int i :: .ref a :: rest)) rfl (rest := rest) rfl (by rw [hb]; exact hdg) t
  simp only [arrV_size] at h1
  exact h1 st
theorem vx_bastZ {D : va_G} {cl : List vw_C} {ws : va_W} {tys : List (ClassId × FieldType)} {a : Nat} (hexec : p.tables.exec = Jvm.exec) (hb : c.code = cc) (hK : va_K D cl tys s) (hP : va_P D cl ws H) (q0 t0 : Nat) {cA : ClassId} {n : Nat} {f : Nat → Int32} (ha : ws[q0]? = some (a, .inl (cA, n, .inl f))) (ht : tys[t0]? = some (cA, .byte)) {i : Int32} {x : Int32} (hout : ¬ vp_in i n) (hdg : decode cc pc = .ok (.bastore, 1))
    (k : ∀ tx : String, tx = (toString "Index " ++ toString i ++ toString " out of bounds for length " ++ toString n : String) → vx_Note p l e R s m args below meth c H locs cells slots Q (F0 m pc ls rest) "java/lang/ArrayIndexOutOfBoundsException" tx) : W p l e R s m args below meth c H locs cells slots Q (F0 m pc ls (.int x :: .int i :: .ref a :: rest)) := by
  intro T hT X
  obtain ⟨t, st, q⟩ := k _ rfl T hT X
  refine ⟨t, ?_, q⟩
  have h1 := X.bastoreOut hexec (by rw [hT]; exact hP q0 _ ha) ((hK.2 t0 _ ht).1 n (fun j => .int (f j))) (j := i) (by show (i < 0 ∨ (arrV _ _ _).slots.size ≤ _); rw [arrV_size]; exact Classical.byContradiction hout) (g := F0 m pc ls (.int x :: .int i :: .ref a :: rest)) rfl (rest := rest) rfl (by rw [hb]; exact hdg) t
  simp only [arrV_size] at h1
  exact h1 st
theorem vx_zaldZ {D : va_G} {cl : List vw_C} {ws : va_W} {tys : List (ClassId × FieldType)} {a : Nat} (hexec : p.tables.exec = Jvm.exec) (hb : c.code = cc) (hK : va_K D cl tys s) (hP : va_P D cl ws H) (q0 t0 : Nat) {cA : ClassId} {n : Nat} {f : Nat → Int32} (ha : ws[q0]? = some (a, .inl (cA, n, .inl f))) (ht : tys[t0]? = some (cA, .boolean)) {i : Int32} (hout : ¬ vp_in i n) (hdg : decode cc pc = .ok (.baload, 1))
    (k : ∀ tx : String, tx = (toString "Index " ++ toString i ++ toString " out of bounds for length " ++ toString n : String) → vx_Note p l e R s m args below meth c H locs cells slots Q (F0 m pc ls rest) "java/lang/ArrayIndexOutOfBoundsException" tx) : W p l e R s m args below meth c H locs cells slots Q (F0 m pc ls (.int i :: .ref a :: rest)) := by
  intro T hT X
  obtain ⟨t, st, q⟩ := k _ rfl T hT X
  refine ⟨t, ?_, q⟩
  have h1 := X.baloadOut hexec (by rw [hT]; exact hP q0 _ ha) ((hK.2 t0 _ ht).1 n (fun j => .int (f j))) (j := i) (by show (i < 0 ∨ (arrV _ _ _).slots.size ≤ _); rw [arrV_size]; exact Classical.byContradiction hout) (g := F0 m pc ls (.int i :: .ref a :: rest)) rfl (rest := rest) rfl (by rw [hb]; exact hdg) t
  simp only [arrV_size] at h1
  exact h1 st
theorem vx_zastZ {D : va_G} {cl : List vw_C} {ws : va_W} {tys : List (ClassId × FieldType)} {a : Nat} (hexec : p.tables.exec = Jvm.exec) (hb : c.code = cc) (hK : va_K D cl tys s) (hP : va_P D cl ws H) (q0 t0 : Nat) {cA : ClassId} {n : Nat} {f : Nat → Int32} (ha : ws[q0]? = some (a, .inl (cA, n, .inl f))) (ht : tys[t0]? = some (cA, .boolean)) {i : Int32} {x : Int32} (hout : ¬ vp_in i n) (hdg : decode cc pc = .ok (.bastore, 1))
    (k : ∀ tx : String, tx = (toString "Index " ++ toString i ++ toString " out of bounds for length " ++ toString n : String) → vx_Note p l e R s m args below meth c H locs cells slots Q (F0 m pc ls rest) "java/lang/ArrayIndexOutOfBoundsException" tx) : W p l e R s m args below meth c H locs cells slots Q (F0 m pc ls (.int x :: .int i :: .ref a :: rest)) := by
  intro T hT X
  obtain ⟨t, st, q⟩ := k _ rfl T hT X
  refine ⟨t, ?_, q⟩
  have h1 := X.bastoreOut hexec (by rw [hT]; exact hP q0 _ ha) ((hK.2 t0 _ ht).1 n (fun j => .int (f j))) (j := i) (by show (i < 0 ∨ (arrV _ _ _).slots.size ≤ _); rw [arrV_size]; exact Classical.byContradiction hout) (g := F0 m pc ls (.int x :: .int i :: .ref a :: rest)) rfl (rest := rest) rfl (by rw [hb]; exact hdg) t
  simp only [arrV_size] at h1
  exact h1 st
theorem vx_caldZ {D : va_G} {cl : List vw_C} {ws : va_W} {tys : List (ClassId × FieldType)} {a : Nat} (hexec : p.tables.exec = Jvm.exec) (hb : c.code = cc) (hK : va_K D cl tys s) (hP : va_P D cl ws H) (q0 t0 : Nat) {cA : ClassId} {n : Nat} {f : Nat → Int32} (ha : ws[q0]? = some (a, .inl (cA, n, .inl f))) (ht : tys[t0]? = some (cA, .char)) {i : Int32} (hout : ¬ vp_in i n) (hdg : decode cc pc = .ok (.caload, 1))
    (k : ∀ tx : String, tx = (toString "Index " ++ toString i ++ toString " out of bounds for length " ++ toString n : String) → vx_Note p l e R s m args below meth c H locs cells slots Q (F0 m pc ls rest) "java/lang/ArrayIndexOutOfBoundsException" tx) : W p l e R s m args below meth c H locs cells slots Q (F0 m pc ls (.int i :: .ref a :: rest)) := by
  intro T hT X
  obtain ⟨t, st, q⟩ := k _ rfl T hT X
  refine ⟨t, ?_, q⟩
  have h1 := X.caloadOut hexec (by rw [hT]; exact hP q0 _ ha) ((hK.2 t0 _ ht).1 n (fun j => .int (f j))) (j := i) (by show (i < 0 ∨ (arrV _ _ _).slots.size ≤ _); rw [arrV_size]; exact Classical.byContradiction hout) (g := F0 m pc ls (.int i :: .ref a :: rest)) rfl (rest := rest) rfl (by rw [hb]; exact hdg) t
  simp only [arrV_size] at h1
  exact h1 st
theorem vx_castZ {D : va_G} {cl : List vw_C} {ws : va_W} {tys : List (ClassId × FieldType)} {a : Nat} (hexec : p.tables.exec = Jvm.exec) (hb : c.code = cc) (hK : va_K D cl tys s) (hP : va_P D cl ws H) (q0 t0 : Nat) {cA : ClassId} {n : Nat} {f : Nat → Int32} (ha : ws[q0]? = some (a, .inl (cA, n, .inl f))) (ht : tys[t0]? = some (cA, .char)) {i : Int32} {x : Int32} (hout : ¬ vp_in i n) (hdg : decode cc pc = .ok (.castore, 1))
    (k : ∀ tx : String, tx = (toString "Index " ++ toString i ++ toString " out of bounds for length " ++ toString n : String) → vx_Note p l e R s m args below meth c H locs cells slots Q (F0 m pc ls rest) "java/lang/ArrayIndexOutOfBoundsException" tx) : W p l e R s m args below meth c H locs cells slots Q (F0 m pc ls (.int x :: .int i :: .ref a :: rest)) := by
  intro T hT X
  obtain ⟨t, st, q⟩ := k _ rfl T hT X
  refine ⟨t, ?_, q⟩
  have h1 := X.castoreOut hexec (by rw [hT]; exact hP q0 _ ha) ((hK.2 t0 _ ht).1 n (fun j => .int (f j))) (j := i) (by show (i < 0 ∨ (arrV _ _ _).slots.size ≤ _); rw [arrV_size]; exact Classical.byContradiction hout) (g := F0 m pc ls (.int x :: .int i :: .ref a :: rest)) rfl (rest := rest) rfl (by rw [hb]; exact hdg) t
  simp only [arrV_size] at h1
  exact h1 st
theorem vx_saldZ {D : va_G} {cl : List vw_C} {ws : va_W} {tys : List (ClassId × FieldType)} {a : Nat} (hexec : p.tables.exec = Jvm.exec) (hb : c.code = cc) (hK : va_K D cl tys s) (hP : va_P D cl ws H) (q0 t0 : Nat) {cA : ClassId} {n : Nat} {f : Nat → Int32} (ha : ws[q0]? = some (a, .inl (cA, n, .inl f))) (ht : tys[t0]? = some (cA, .short)) {i : Int32} (hout : ¬ vp_in i n) (hdg : decode cc pc = .ok (.saload, 1))
    (k : ∀ tx : String, tx = (toString "Index " ++ toString i ++ toString " out of bounds for length " ++ toString n : String) → vx_Note p l e R s m args below meth c H locs cells slots Q (F0 m pc ls rest) "java/lang/ArrayIndexOutOfBoundsException" tx) : W p l e R s m args below meth c H locs cells slots Q (F0 m pc ls (.int i :: .ref a :: rest)) := by
  intro T hT X
  obtain ⟨t, st, q⟩ := k _ rfl T hT X
  refine ⟨t, ?_, q⟩
  have h1 := X.saloadOut hexec (by rw [hT]; exact hP q0 _ ha) ((hK.2 t0 _ ht).1 n (fun j => .int (f j))) (j := i) (by show (i < 0 ∨ (arrV _ _ _).slots.size ≤ _); rw [arrV_size]; exact Classical.byContradiction hout) (g := F0 m pc ls (.int i :: .ref a :: rest)) rfl (rest := rest) rfl (by rw [hb]; exact hdg) t
  simp only [arrV_size] at h1
  exact h1 st
theorem vx_sastZ {D : va_G} {cl : List vw_C} {ws : va_W} {tys : List (ClassId × FieldType)} {a : Nat} (hexec : p.tables.exec = Jvm.exec) (hb : c.code = cc) (hK : va_K D cl tys s) (hP : va_P D cl ws H) (q0 t0 : Nat) {cA : ClassId} {n : Nat} {f : Nat → Int32} (ha : ws[q0]? = some (a, .inl (cA, n, .inl f))) (ht : tys[t0]? = some (cA, .short)) {i : Int32} {x : Int32} (hout : ¬ vp_in i n) (hdg : decode cc pc = .ok (.sastore, 1))
    (k : ∀ tx : String, tx = (toString "Index " ++ toString i ++ toString " out of bounds for length " ++ toString n : String) → vx_Note p l e R s m args below meth c H locs cells slots Q (F0 m pc ls rest) "java/lang/ArrayIndexOutOfBoundsException" tx) : W p l e R s m args below meth c H locs cells slots Q (F0 m pc ls (.int x :: .int i :: .ref a :: rest)) := by
  intro T hT X
  obtain ⟨t, st, q⟩ := k _ rfl T hT X
  refine ⟨t, ?_, q⟩
  have h1 := X.sastoreOut hexec (by rw [hT]; exact hP q0 _ ha) ((hK.2 t0 _ ht).1 n (fun j => .int (f j))) (j := i) (by show (i < 0 ∨ (arrV _ _ _).slots.size ≤ _); rw [arrV_size]; exact Classical.byContradiction hout) (g := F0 m pc ls (.int x :: .int i :: .ref a :: rest)) rfl (rest := rest) rfl (by rw [hb]; exact hdg) t
  simp only [arrV_size] at h1
  exact h1 st
theorem vx_laldZ {D : va_G} {cl : List vw_C} {ws : va_W} {tys : List (ClassId × FieldType)} {a : Nat} (hexec : p.tables.exec = Jvm.exec) (hb : c.code = cc) (hK : va_K D cl tys s) (hP : va_P D cl ws H) (q0 t0 : Nat) {cA : ClassId} {n : Nat} {f : Nat → Int64} (ha : ws[q0]? = some (a, .inl (cA, n, .inr (.inl f)))) (ht : tys[t0]? = some (cA, .long)) {i : Int32} (hout : ¬ vp_in i n) (hdg : decode cc pc = .ok (.laload, 1))
    (k : ∀ tx : String, tx = (toString "Index " ++ toString i ++ toString " out of bounds for length " ++ toString n : String) → vx_Note p l e R s m args below meth c H locs cells slots Q (F0 m pc ls rest) "java/lang/ArrayIndexOutOfBoundsException" tx) : W p l e R s m args below meth c H locs cells slots Q (F0 m pc ls (.int i :: .ref a :: rest)) := by
  intro T hT X
  obtain ⟨t, st, q⟩ := k _ rfl T hT X
  refine ⟨t, ?_, q⟩
  have h1 := X.laloadOut hexec (by rw [hT]; exact hP q0 _ ha) ((hK.2 t0 _ ht).1 n (fun j => .long (f j))) (j := i) (by show (i < 0 ∨ (arrV _ _ _).slots.size ≤ _); rw [arrV_size]; exact Classical.byContradiction hout) (g := F0 m pc ls (.int i :: .ref a :: rest)) rfl (rest := rest) rfl (by rw [hb]; exact hdg) t
  simp only [arrV_size] at h1
  exact h1 st
theorem vx_lastZ {D : va_G} {cl : List vw_C} {ws : va_W} {tys : List (ClassId × FieldType)} {a : Nat} (hexec : p.tables.exec = Jvm.exec) (hb : c.code = cc) (hK : va_K D cl tys s) (hP : va_P D cl ws H) (q0 t0 : Nat) {cA : ClassId} {n : Nat} {f : Nat → Int64} (ha : ws[q0]? = some (a, .inl (cA, n, .inr (.inl f)))) (ht : tys[t0]? = some (cA, .long)) {i : Int32} {x : Int64} (hout : ¬ vp_in i n) (hdg : decode cc pc = .ok (.lastore, 1))
    (k : ∀ tx : String, tx = (toString "Index " ++ toString i ++ toString " out of bounds for length " ++ toString n : String) → vx_Note p l e R s m args below meth c H locs cells slots Q (F0 m pc ls rest) "java/lang/ArrayIndexOutOfBoundsException" tx) : W p l e R s m args below meth c H locs cells slots Q (F0 m pc ls (.long x :: .int i :: .ref a :: rest)) := by
  intro T hT X
  obtain ⟨t, st, q⟩ := k _ rfl T hT X
  refine ⟨t, ?_, q⟩
  have h1 := X.lastoreOut hexec (by rw [hT]; exact hP q0 _ ha) ((hK.2 t0 _ ht).1 n (fun j => .long (f j))) (j := i) (by show (i < 0 ∨ (arrV _ _ _).slots.size ≤ _); rw [arrV_size]; exact Classical.byContradiction hout) (g := F0 m pc ls (.long x :: .int i :: .ref a :: rest)) rfl (rest := rest) rfl (by rw [hb]; exact hdg) t
  simp only [arrV_size] at h1
  exact h1 st
theorem vx_faldZ {D : va_G} {cl : List vw_C} {ws : va_W} {tys : List (ClassId × FieldType)} {a : Nat} (hexec : p.tables.exec = Jvm.exec) (hb : c.code = cc) (hK : va_K D cl tys s) (hP : va_P D cl ws H) (q0 t0 : Nat) {cA : ClassId} {n : Nat} {f : Nat → UInt32} (ha : ws[q0]? = some (a, .inl (cA, n, .inr (.inr (.inl f))))) (ht : tys[t0]? = some (cA, .float)) {i : Int32} (hout : ¬ vp_in i n) (hdg : decode cc pc = .ok (.faload, 1))
    (k : ∀ tx : String, tx = (toString "Index " ++ toString i ++ toString " out of bounds for length " ++ toString n : String) → vx_Note p l e R s m args below meth c H locs cells slots Q (F0 m pc ls rest) "java/lang/ArrayIndexOutOfBoundsException" tx) : W p l e R s m args below meth c H locs cells slots Q (F0 m pc ls (.int i :: .ref a :: rest)) := by
  intro T hT X
  obtain ⟨t, st, q⟩ := k _ rfl T hT X
  refine ⟨t, ?_, q⟩
  have h1 := X.faloadOut hexec (by rw [hT]; exact hP q0 _ ha) ((hK.2 t0 _ ht).1 n (fun j => .float (f j))) (j := i) (by show (i < 0 ∨ (arrV _ _ _).slots.size ≤ _); rw [arrV_size]; exact Classical.byContradiction hout) (g := F0 m pc ls (.int i :: .ref a :: rest)) rfl (rest := rest) rfl (by rw [hb]; exact hdg) t
  simp only [arrV_size] at h1
  exact h1 st
theorem vx_fastZ {D : va_G} {cl : List vw_C} {ws : va_W} {tys : List (ClassId × FieldType)} {a : Nat} (hexec : p.tables.exec = Jvm.exec) (hb : c.code = cc) (hK : va_K D cl tys s) (hP : va_P D cl ws H) (q0 t0 : Nat) {cA : ClassId} {n : Nat} {f : Nat → UInt32} (ha : ws[q0]? = some (a, .inl (cA, n, .inr (.inr (.inl f))))) (ht : tys[t0]? = some (cA, .float)) {i : Int32} {x : UInt32} (hout : ¬ vp_in i n) (hdg : decode cc pc = .ok (.fastore, 1))
    (k : ∀ tx : String, tx = (toString "Index " ++ toString i ++ toString " out of bounds for length " ++ toString n : String) → vx_Note p l e R s m args below meth c H locs cells slots Q (F0 m pc ls rest) "java/lang/ArrayIndexOutOfBoundsException" tx) : W p l e R s m args below meth c H locs cells slots Q (F0 m pc ls (.float x :: .int i :: .ref a :: rest)) := by
  intro T hT X
  obtain ⟨t, st, q⟩ := k _ rfl T hT X
  refine ⟨t, ?_, q⟩
  have h1 := X.fastoreOut hexec (by rw [hT]; exact hP q0 _ ha) ((hK.2 t0 _ ht).1 n (fun j => .float (f j))) (j := i) (by show (i < 0 ∨ (arrV _ _ _).slots.size ≤ _); rw [arrV_size]; exact Classical.byContradiction hout) (g := F0 m pc ls (.float x :: .int i :: .ref a :: rest)) rfl (rest := rest) rfl (by rw [hb]; exact hdg) t
  simp only [arrV_size] at h1
  exact h1 st
theorem vx_daldZ {D : va_G} {cl : List vw_C} {ws : va_W} {tys : List (ClassId × FieldType)} {a : Nat} (hexec : p.tables.exec = Jvm.exec) (hb : c.code = cc) (hK : va_K D cl tys s) (hP : va_P D cl ws H) (q0 t0 : Nat) {cA : ClassId} {n : Nat} {f : Nat → UInt64} (ha : ws[q0]? = some (a, .inl (cA, n, .inr (.inr (.inr (.inl f)))))) (ht : tys[t0]? = some (cA, .double)) {i : Int32} (hout : ¬ vp_in i n) (hdg : decode cc pc = .ok (.daload, 1))
    (k : ∀ tx : String, tx = (toString "Index " ++ toString i ++ toString " out of bounds for length " ++ toString n : String) → vx_Note p l e R s m args below meth c H locs cells slots Q (F0 m pc ls rest) "java/lang/ArrayIndexOutOfBoundsException" tx) : W p l e R s m args below meth c H locs cells slots Q (F0 m pc ls (.int i :: .ref a :: rest)) := by
  intro T hT X
  obtain ⟨t, st, q⟩ := k _ rfl T hT X
  refine ⟨t, ?_, q⟩
  have h1 := X.daloadOut hexec (by rw [hT]; exact hP q0 _ ha) ((hK.2 t0 _ ht).1 n (fun j => .double (f j))) (j := i) (by show (i < 0 ∨ (arrV _ _ _).slots.size ≤ _); rw [arrV_size]; exact Classical.byContradiction hout) (g := F0 m pc ls (.int i :: .ref a :: rest)) rfl (rest := rest) rfl (by rw [hb]; exact hdg) t
  simp only [arrV_size] at h1
  exact h1 st
theorem vx_dastZ {D : va_G} {cl : List vw_C} {ws : va_W} {tys : List (ClassId × FieldType)} {a : Nat} (hexec : p.tables.exec = Jvm.exec) (hb : c.code = cc) (hK : va_K D cl tys s) (hP : va_P D cl ws H) (q0 t0 : Nat) {cA : ClassId} {n : Nat} {f : Nat → UInt64} (ha : ws[q0]? = some (a, .inl (cA, n, .inr (.inr (.inr (.inl f)))))) (ht : tys[t0]? = some (cA, .double)) {i : Int32} {x : UInt64} (hout : ¬ vp_in i n) (hdg : decode cc pc = .ok (.dastore, 1))
    (k : ∀ tx : String, tx = (toString "Index " ++ toString i ++ toString " out of bounds for length " ++ toString n : String) → vx_Note p l e R s m args below meth c H locs cells slots Q (F0 m pc ls rest) "java/lang/ArrayIndexOutOfBoundsException" tx) : W p l e R s m args below meth c H locs cells slots Q (F0 m pc ls (.double x :: .int i :: .ref a :: rest)) := by
  intro T hT X
  obtain ⟨t, st, q⟩ := k _ rfl T hT X
  refine ⟨t, ?_, q⟩
  have h1 := X.dastoreOut hexec (by rw [hT]; exact hP q0 _ ha) ((hK.2 t0 _ ht).1 n (fun j => .double (f j))) (j := i) (by show (i < 0 ∨ (arrV _ _ _).slots.size ≤ _); rw [arrV_size]; exact Classical.byContradiction hout) (g := F0 m pc ls (.double x :: .int i :: .ref a :: rest)) rfl (rest := rest) rfl (by rw [hb]; exact hdg) t
  simp only [arrV_size] at h1
  exact h1 st
theorem vx_arraylengthN (hexec : p.tables.exec = Jvm.exec) (hb : c.code = cc) (hdg : decode cc pc = .ok (.arraylength, 1)) (k : vx_NoteN p l e R s m args below meth c H locs cells slots Q (F0 m pc ls rest)) : W p l e R s m args below meth c H locs cells slots Q (F0 m pc ls (.null :: rest)) := by
  intro T hT X
  obtain ⟨t, st, q⟩ := k T hT X
  exact ⟨t, X.arraylengthNull hexec (g := F0 m pc ls (.null :: rest)) rfl (rest := rest) rfl (by rw [hb]; exact hdg) t st, q⟩
theorem vx_ialoadN (hexec : p.tables.exec = Jvm.exec) (hb : c.code = cc) {i : Int32} (hdg : decode cc pc = .ok (.iaload, 1)) (k : vx_NoteN p l e R s m args below meth c H locs cells slots Q (F0 m pc ls rest)) : W p l e R s m args below meth c H locs cells slots Q (F0 m pc ls (.int i :: .null :: rest)) := by
  intro T hT X
  obtain ⟨t, st, q⟩ := k T hT X
  exact ⟨t, X.ialoadNull hexec (g := F0 m pc ls (.int i :: .null :: rest)) rfl (rest := rest) rfl (by rw [hb]; exact hdg) t st, q⟩
theorem vx_laloadN (hexec : p.tables.exec = Jvm.exec) (hb : c.code = cc) {i : Int32} (hdg : decode cc pc = .ok (.laload, 1)) (k : vx_NoteN p l e R s m args below meth c H locs cells slots Q (F0 m pc ls rest)) : W p l e R s m args below meth c H locs cells slots Q (F0 m pc ls (.int i :: .null :: rest)) := by
  intro T hT X
  obtain ⟨t, st, q⟩ := k T hT X
  exact ⟨t, X.laloadNull hexec (g := F0 m pc ls (.int i :: .null :: rest)) rfl (rest := rest) rfl (by rw [hb]; exact hdg) t st, q⟩
theorem vx_faloadN (hexec : p.tables.exec = Jvm.exec) (hb : c.code = cc) {i : Int32} (hdg : decode cc pc = .ok (.faload, 1)) (k : vx_NoteN p l e R s m args below meth c H locs cells slots Q (F0 m pc ls rest)) : W p l e R s m args below meth c H locs cells slots Q (F0 m pc ls (.int i :: .null :: rest)) := by
  intro T hT X
  obtain ⟨t, st, q⟩ := k T hT X
  exact ⟨t, X.faloadNull hexec (g := F0 m pc ls (.int i :: .null :: rest)) rfl (rest := rest) rfl (by rw [hb]; exact hdg) t st, q⟩
theorem vx_daloadN (hexec : p.tables.exec = Jvm.exec) (hb : c.code = cc) {i : Int32} (hdg : decode cc pc = .ok (.daload, 1)) (k : vx_NoteN p l e R s m args below meth c H locs cells slots Q (F0 m pc ls rest)) : W p l e R s m args below meth c H locs cells slots Q (F0 m pc ls (.int i :: .null :: rest)) := by
  intro T hT X
  obtain ⟨t, st, q⟩ := k T hT X
  exact ⟨t, X.daloadNull hexec (g := F0 m pc ls (.int i :: .null :: rest)) rfl (rest := rest) rfl (by rw [hb]; exact hdg) t st, q⟩
theorem vx_aaloadN (hexec : p.tables.exec = Jvm.exec) (hb : c.code = cc) {i : Int32} (hdg : decode cc pc = .ok (.aaload, 1)) (k : vx_NoteN p l e R s m args below meth c H locs cells slots Q (F0 m pc ls rest)) : W p l e R s m args below meth c H locs cells slots Q (F0 m pc ls (.int i :: .null :: rest)) := by
  intro T hT X
  obtain ⟨t, st, q⟩ := k T hT X
  exact ⟨t, X.aaloadNull hexec (g := F0 m pc ls (.int i :: .null :: rest)) rfl (rest := rest) rfl (by rw [hb]; exact hdg) t st, q⟩
theorem vx_baloadN (hexec : p.tables.exec = Jvm.exec) (hb : c.code = cc) {i : Int32} (hdg : decode cc pc = .ok (.baload, 1)) (k : vx_NoteN p l e R s m args below meth c H locs cells slots Q (F0 m pc ls rest)) : W p l e R s m args below meth c H locs cells slots Q (F0 m pc ls (.int i :: .null :: rest)) := by
  intro T hT X
  obtain ⟨t, st, q⟩ := k T hT X
  exact ⟨t, X.baloadNull hexec (g := F0 m pc ls (.int i :: .null :: rest)) rfl (rest := rest) rfl (by rw [hb]; exact hdg) t st, q⟩
theorem vx_caloadN (hexec : p.tables.exec = Jvm.exec) (hb : c.code = cc) {i : Int32} (hdg : decode cc pc = .ok (.caload, 1)) (k : vx_NoteN p l e R s m args below meth c H locs cells slots Q (F0 m pc ls rest)) : W p l e R s m args below meth c H locs cells slots Q (F0 m pc ls (.int i :: .null :: rest)) := by
  intro T hT X
  obtain ⟨t, st, q⟩ := k T hT X
  exact ⟨t, X.caloadNull hexec (g := F0 m pc ls (.int i :: .null :: rest)) rfl (rest := rest) rfl (by rw [hb]; exact hdg) t st, q⟩
theorem vx_saloadN (hexec : p.tables.exec = Jvm.exec) (hb : c.code = cc) {i : Int32} (hdg : decode cc pc = .ok (.saload, 1)) (k : vx_NoteN p l e R s m args below meth c H locs cells slots Q (F0 m pc ls rest)) : W p l e R s m args below meth c H locs cells slots Q (F0 m pc ls (.int i :: .null :: rest)) := by
  intro T hT X
  obtain ⟨t, st, q⟩ := k T hT X
  exact ⟨t, X.saloadNull hexec (g := F0 m pc ls (.int i :: .null :: rest)) rfl (rest := rest) rfl (by rw [hb]; exact hdg) t st, q⟩
theorem vx_iastoreN (hexec : p.tables.exec = Jvm.exec) (hb : c.code = cc) {x : Int32} {i : Int32} (hdg : decode cc pc = .ok (.iastore, 1)) (k : vx_NoteN p l e R s m args below meth c H locs cells slots Q (F0 m pc ls rest)) : W p l e R s m args below meth c H locs cells slots Q (F0 m pc ls (.int x :: .int i :: .null :: rest)) := by
  intro T hT X
  obtain ⟨t, st, q⟩ := k T hT X
  exact ⟨t, X.iastoreNull hexec (g := F0 m pc ls (.int x :: .int i :: .null :: rest)) rfl (rest := rest) rfl (by rw [hb]; exact hdg) t st, q⟩
theorem vx_lastoreN (hexec : p.tables.exec = Jvm.exec) (hb : c.code = cc) {x : Int64} {i : Int32} (hdg : decode cc pc = .ok (.lastore, 1)) (k : vx_NoteN p l e R s m args below meth c H locs cells slots Q (F0 m pc ls rest)) : W p l e R s m args below meth c H locs cells slots Q (F0 m pc ls (.long x :: .int i :: .null :: rest)) := by
  intro T hT X
  obtain ⟨t, st, q⟩ := k T hT X
  exact ⟨t, X.lastoreNull hexec (g := F0 m pc ls (.long x :: .int i :: .null :: rest)) rfl (rest := rest) rfl (by rw [hb]; exact hdg) t st, q⟩
theorem vx_fastoreN (hexec : p.tables.exec = Jvm.exec) (hb : c.code = cc) {x : UInt32} {i : Int32} (hdg : decode cc pc = .ok (.fastore, 1)) (k : vx_NoteN p l e R s m args below meth c H locs cells slots Q (F0 m pc ls rest)) : W p l e R s m args below meth c H locs cells slots Q (F0 m pc ls (.float x :: .int i :: .null :: rest)) := by
  intro T hT X
  obtain ⟨t, st, q⟩ := k T hT X
  exact ⟨t, X.fastoreNull hexec (g := F0 m pc ls (.float x :: .int i :: .null :: rest)) rfl (rest := rest) rfl (by rw [hb]; exact hdg) t st, q⟩
theorem vx_dastoreN (hexec : p.tables.exec = Jvm.exec) (hb : c.code = cc) {x : UInt64} {i : Int32} (hdg : decode cc pc = .ok (.dastore, 1)) (k : vx_NoteN p l e R s m args below meth c H locs cells slots Q (F0 m pc ls rest)) : W p l e R s m args below meth c H locs cells slots Q (F0 m pc ls (.double x :: .int i :: .null :: rest)) := by
  intro T hT X
  obtain ⟨t, st, q⟩ := k T hT X
  exact ⟨t, X.dastoreNull hexec (g := F0 m pc ls (.double x :: .int i :: .null :: rest)) rfl (rest := rest) rfl (by rw [hb]; exact hdg) t st, q⟩
theorem vx_bastoreN (hexec : p.tables.exec = Jvm.exec) (hb : c.code = cc) {x : Int32} {i : Int32} (hdg : decode cc pc = .ok (.bastore, 1)) (k : vx_NoteN p l e R s m args below meth c H locs cells slots Q (F0 m pc ls rest)) : W p l e R s m args below meth c H locs cells slots Q (F0 m pc ls (.int x :: .int i :: .null :: rest)) := by
  intro T hT X
  obtain ⟨t, st, q⟩ := k T hT X
  exact ⟨t, X.bastoreNull hexec (g := F0 m pc ls (.int x :: .int i :: .null :: rest)) rfl (rest := rest) rfl (by rw [hb]; exact hdg) t st, q⟩
theorem vx_castoreN (hexec : p.tables.exec = Jvm.exec) (hb : c.code = cc) {x : Int32} {i : Int32} (hdg : decode cc pc = .ok (.castore, 1)) (k : vx_NoteN p l e R s m args below meth c H locs cells slots Q (F0 m pc ls rest)) : W p l e R s m args below meth c H locs cells slots Q (F0 m pc ls (.int x :: .int i :: .null :: rest)) := by
  intro T hT X
  obtain ⟨t, st, q⟩ := k T hT X
  exact ⟨t, X.castoreNull hexec (g := F0 m pc ls (.int x :: .int i :: .null :: rest)) rfl (rest := rest) rfl (by rw [hb]; exact hdg) t st, q⟩
theorem vx_sastoreN (hexec : p.tables.exec = Jvm.exec) (hb : c.code = cc) {x : Int32} {i : Int32} (hdg : decode cc pc = .ok (.sastore, 1)) (k : vx_NoteN p l e R s m args below meth c H locs cells slots Q (F0 m pc ls rest)) : W p l e R s m args below meth c H locs cells slots Q (F0 m pc ls (.int x :: .int i :: .null :: rest)) := by
  intro T hT X
  obtain ⟨t, st, q⟩ := k T hT X
  exact ⟨t, X.sastoreNull hexec (g := F0 m pc ls (.int x :: .int i :: .null :: rest)) rfl (rest := rest) rfl (by rw [hb]; exact hdg) t st, q⟩
theorem vx_invokeN {own C : String} {index maxL : Nat} {y : MethodName} {bytes : ByteArray} {ret : Option FieldType} (hexec : p.tables.exec = Jvm.exec) (hb : c.code = cc) (hown : s.vm.findClass own = some m.cls) (hlink : (Cond.methodLink own index y).before args s = true) (hinst : (Cond.instanceMethod y).before args s = true) (hcode : (Cond.code y bytes maxL ret).before args s = true) (hsel : (Cond.selects C y y).before args s = true)
    (hx : y.cls ≠ "java/lang/invoke/MethodHandle" ∧ y.cls ≠ "java/lang/invoke/VarHandle") {As : List Value} (hlen : (parseMethodDescriptor y.desc).map (fun d => d.parameters.length) = some As.length) (hdg : decode cc pc = .ok (.invokevirtual index, 3))
    (k : vx_NoteN p l e R s m args below meth c H locs cells slots Q (F0 m pc ls rest)) {st0 : List Value} (hst : st0 = As.reverse ++ .null :: rest) : W p l e R s m args below meth c H locs cells slots Q (F0 m pc ls st0) := by
  intro T hT X
  obtain ⟨r0, r, hn, hrm, hstR, hsigR⟩ := va_Decl.of hinst hcode
  obtain ⟨c2, r2, m2, q1, q2, q3, q4, kP, hkP, hkPi⟩ := Cond.selects_spec hsel
  cases hn.symm.trans q3
  have hl9 : As.length = r.sig.parameters.length := by
    rw [hsigR] at hlen
    exact (Option.some.inj hlen).symm
  obtain ⟨vm', X1, st1⟩ := X.invokevirtualNull hexec hown hlink hn hrm hstR hkP hkPi hx (g := F0 m pc ls st0) rfl (argsL := As) (rest := rest) hl9 hst (by rw [hb]; exact hdg)
  obtain ⟨t, st, q⟩ := k (T.setVm vm') hT X1
  exact ⟨t, st1 t st, q⟩
theorem vx_newarrayZ {atype : ArrayType} (hexec : p.tables.exec = Jvm.exec) (hb : c.code = cc) {n : Int32} (h0 : n < 0) (hdg : decode cc pc = .ok (.newarray atype, 2)) (k : ∀ tx : String, tx = toString n → vx_Note p l e R s m args below meth c H locs cells slots Q (F0 m pc ls rest) "java/lang/NegativeArraySizeException" tx) : W p l e R s m args below meth c H locs cells slots Q (F0 m pc ls (.int n :: rest)) := by
  intro T hT X
  obtain ⟨t, st, q⟩ := k _ rfl T hT X
  exact ⟨t, X.newarrayNegative hexec (g := F0 m pc ls (.int n :: rest)) rfl h0 (rest := rest) rfl (by rw [hb]; exact hdg) t st, q⟩
end
end VXM
/-! ===== END ===== -/
end
section
def RX0 : String := "TubHire$1"
def TX0 : u_T := fun k => match k with
  | _ => ("", "", "", false)
def tyX0 : Nat → FieldType := fun k => match k with
  | _ => .int
abbrev wsX00 : List Cond := u_ws RX0 TX0 0
theorem nmX0 : ∀ a, a < 0 → ∀ b, b < 0 → a ≠ b → (TX0 a).2.1 ≠ (TX0 b).2.1 := by decide +kernel
theorem tyX0_ok : ∀ k, k < 0 → parseFieldDescriptor (TX0 k).2.2.1 = some (tyX0 k) := by decide +kernel
def RX1 : String := "TubHire$Command"
def TX1 : u_T := fun k => match k with
  | _ => ("", "", "", false)
def tyX1 : Nat → FieldType := fun k => match k with
  | _ => .int
abbrev wsX10 : List Cond := u_ws RX1 TX1 0
theorem nmX1 : ∀ a, a < 0 → ∀ b, b < 0 → a ≠ b → (TX1 a).2.1 ≠ (TX1 b).2.1 := by decide +kernel
theorem tyX1_ok : ∀ k, k < 0 → parseFieldDescriptor (TX1 k).2.2.1 = some (tyX1 k) := by decide +kernel
def RX2 : String := "TubHire$Heater"
def TX2 : u_T := fun k => match k with
  | 0 => ("TubHire$Heater", "gas", "I", false)
  | _ => ("TubHire$Heater", "tent", "I", false)
def tyX2 : Nat → FieldType := fun k => match k with
  | 0 => .int
  | _ => .int
abbrev wsX20 : List Cond := u_ws RX2 TX2 2
theorem nmX2 : ∀ a, a < 2 → ∀ b, b < 2 → a ≠ b → (TX2 a).2.1 ≠ (TX2 b).2.1 := by decide +kernel
theorem tyX2_ok : ∀ k, k < 2 → parseFieldDescriptor (TX2 k).2.2.1 = some (tyX2 k) := by decide +kernel
abbrev cX2_init : ByteArray := prog_4_method_1_code
def yX2_init : MethodName := ⟨RX2, "<init>", "()V"⟩
abbrev cX2_copyFrom : ByteArray := prog_4_method_2_code
def yX2_copyFrom : MethodName := ⟨RX2, "copyFrom", "(LTubHire$Heater;)V"⟩
def RX3 : String := "TubHire$Past"
def TX3 : u_T := fun k => match k with
  | 0 => ("TubHire$Past", "ring", "[LTubHire$Store;", true)
  | 1 => ("TubHire$Past", "next", "I", false)
  | _ => ("TubHire$Past", "count", "I", false)
def tyX3 : Nat → FieldType := fun k => match k with
  | 0 => .array (.object "TubHire$Store")
  | 1 => .int
  | _ => .int
abbrev wsX30 : List Cond := u_ws RX3 TX3 3
theorem nmX3 : ∀ a, a < 3 → ∀ b, b < 3 → a ≠ b → (TX3 a).2.1 ≠ (TX3 b).2.1 := by decide +kernel
theorem tyX3_ok : ∀ k, k < 3 → parseFieldDescriptor (TX3 k).2.2.1 = some (tyX3 k) := by decide +kernel
abbrev cX3_init : ByteArray := prog_5_method_1_code
def yX3_init : MethodName := ⟨RX3, "<init>", "()V"⟩
abbrev cX3_note : ByteArray := prog_5_method_2_code
def yX3_note : MethodName := ⟨RX3, "note", "(LTubHire$Store;)V"⟩
abbrev cX3_giveNoted : ByteArray := prog_5_method_3_code
def yX3_giveNoted : MethodName := ⟨RX3, "giveNoted", "(LTubHire$Store;)V"⟩
abbrev cX3_keep : ByteArray := prog_5_method_4_code
def yX3_keep : MethodName := ⟨RX3, "keep", "()V"⟩
abbrev cX3_giveLatest : ByteArray := prog_5_method_5_code
def yX3_giveLatest : MethodName := ⟨RX3, "giveLatest", "(LTubHire$Store;)V"⟩
def RX4 : String := "TubHire$Refusal"
def TX4 : u_T := fun k => match k with
  | 0 => ("TubHire$Refusal", "reason", "I", false)
  | _ => ("TubHire$Refusal", "detail", "I", false)
def tyX4 : Nat → FieldType := fun k => match k with
  | 0 => .int
  | _ => .int
abbrev wsX40 : List Cond := u_ws RX4 TX4 2
theorem nmX4 : ∀ a, a < 2 → ∀ b, b < 2 → a ≠ b → (TX4 a).2.1 ≠ (TX4 b).2.1 := by decide +kernel
theorem tyX4_ok : ∀ k, k < 2 → parseFieldDescriptor (TX4 k).2.2.1 = some (tyX4 k) := by decide +kernel
abbrev cX4_init : ByteArray := prog_6_method_1_code
def yX4_init : MethodName := ⟨RX4, "<init>", "()V"⟩
abbrev cX4_keep : ByteArray := prog_6_method_2_code
def yX4_keep : MethodName := ⟨RX4, "keep", "(II)I"⟩
def RX5 : String := "TubHire$Store"
def TX5 : u_T := fun k => match k with
  | 0 => ("TubHire$Store", "refusal", "LTubHire$Refusal;", true)
  | 1 => ("TubHire$Store", "tubs", "[LTubHire$Tub;", true)
  | 2 => ("TubHire$Store", "tents", "[LTubHire$Tent;", true)
  | 3 => ("TubHire$Store", "heaters", "[LTubHire$Heater;", true)
  | 4 => ("TubHire$Store", "tubCount", "I", false)
  | 5 => ("TubHire$Store", "tentCount", "I", false)
  | 6 => ("TubHire$Store", "heaterCount", "I", false)
  | 7 => ("TubHire$Store", "hour", "I", false)
  | 8 => ("TubHire$Store", "clean", "I", false)
  | 9 => ("TubHire$Store", "used", "I", false)
  | 10 => ("TubHire$Store", "came", "I", false)
  | 11 => ("TubHire$Store", "bathed", "I", false)
  | 12 => ("TubHire$Store", "soapSlices", "I", false)
  | _ => ("TubHire$Store", "coins", "I", false)
def tyX5 : Nat → FieldType := fun k => match k with
  | 0 => .object "TubHire$Refusal"
  | 1 => .array (.object "TubHire$Tub")
  | 2 => .array (.object "TubHire$Tent")
  | 3 => .array (.object "TubHire$Heater")
  | 4 => .int
  | 5 => .int
  | 6 => .int
  | 7 => .int
  | 8 => .int
  | 9 => .int
  | 10 => .int
  | 11 => .int
  | 12 => .int
  | _ => .int
abbrev wsX50 : List Cond := u_ws RX5 TX5 14
theorem nmX5 : ∀ a, a < 14 → ∀ b, b < 14 → a ≠ b → (TX5 a).2.1 ≠ (TX5 b).2.1 := by decide +kernel
theorem tyX5_ok : ∀ k, k < 14 → parseFieldDescriptor (TX5 k).2.2.1 = some (tyX5 k) := by decide +kernel
abbrev cX5_init : ByteArray := prog_7_method_1_code
def yX5_init : MethodName := ⟨RX5, "<init>", "()V"⟩
abbrev cX5_copyFrom : ByteArray := prog_7_method_2_code
def yX5_copyFrom : MethodName := ⟨RX5, "copyFrom", "(LTubHire$Store;)V"⟩
abbrev cX5_tubAt : ByteArray := prog_7_method_3_code
def yX5_tubAt : MethodName := ⟨RX5, "tubAt", "(I)LTubHire$Tub;"⟩
abbrev cX5_tentAt : ByteArray := prog_7_method_4_code
def yX5_tentAt : MethodName := ⟨RX5, "tentAt", "(I)LTubHire$Tent;"⟩
abbrev cX5_heaterAt : ByteArray := prog_7_method_5_code
def yX5_heaterAt : MethodName := ⟨RX5, "heaterAt", "(I)LTubHire$Heater;"⟩
abbrev cX5_addTub : ByteArray := prog_7_method_6_code
def yX5_addTub : MethodName := ⟨RX5, "addTub", "(I)I"⟩
abbrev cX5_addTent : ByteArray := prog_7_method_7_code
def yX5_addTent : MethodName := ⟨RX5, "addTent", "(I)I"⟩
abbrev cX5_addHeater : ByteArray := prog_7_method_8_code
def yX5_addHeater : MethodName := ⟨RX5, "addHeater", "()I"⟩
abbrev cX5_tearSeam : ByteArray := prog_7_method_9_code
def yX5_tearSeam : MethodName := ⟨RX5, "tearSeam", "(II)I"⟩
abbrev cX5_mendSeam : ByteArray := prog_7_method_10_code
def yX5_mendSeam : MethodName := ⟨RX5, "mendSeam", "(II)I"⟩
abbrev cX5_isTooDear : ByteArray := prog_7_method_11_code
def yX5_isTooDear : MethodName := ⟨RX5, "isTooDear", "(I)Z"⟩
abbrev cX5_bestStored : ByteArray := prog_7_method_12_code
def yX5_bestStored : MethodName := ⟨RX5, "bestStored", "()I"⟩
abbrev cX5_isBetter : ByteArray := prog_7_method_13_code
def yX5_isBetter : MethodName := ⟨RX5, "isBetter", "(LTubHire$Tub;LTubHire$Tub;)Z"⟩
abbrev cX5_goOut : ByteArray := prog_7_method_14_code
def yX5_goOut : MethodName := ⟨RX5, "goOut", "(II)I"⟩
abbrev cX5_bringBack : ByteArray := prog_7_method_15_code
def yX5_bringBack : MethodName := ⟨RX5, "bringBack", "(I)I"⟩
abbrev cX5_addGuest : ByteArray := prog_7_method_16_code
def yX5_addGuest : MethodName := ⟨RX5, "addGuest", "(I)I"⟩
abbrev cX5_awaits : ByteArray := prog_7_method_17_code
def yX5_awaits : MethodName := ⟨RX5, "awaits", "(I)Z"⟩
abbrev cX5_putHeater : ByteArray := prog_7_method_18_code
def yX5_putHeater : MethodName := ⟨RX5, "putHeater", "(II)I"⟩
abbrev cX5_takeHeater : ByteArray := prog_7_method_19_code
def yX5_takeHeater : MethodName := ⟨RX5, "takeHeater", "(I)I"⟩
abbrev cX5_buyGas : ByteArray := prog_7_method_20_code
def yX5_buyGas : MethodName := ⟨RX5, "buyGas", "(II)I"⟩
abbrev cX5_washTowels : ByteArray := prog_7_method_21_code
def yX5_washTowels : MethodName := ⟨RX5, "washTowels", "(I)I"⟩
abbrev cX5_buySoap : ByteArray := prog_7_method_22_code
def yX5_buySoap : MethodName := ⟨RX5, "buySoap", "(I)I"⟩
abbrev cX5_letHoursGo : ByteArray := prog_7_method_23_code
def yX5_letHoursGo : MethodName := ⟨RX5, "letHoursGo", "(I)I"⟩
abbrev cX5_letHourGoIn : ByteArray := prog_7_method_24_code
def yX5_letHourGoIn : MethodName := ⟨RX5, "letHourGoIn", "(LTubHire$Tent;)V"⟩
abbrev cX5_bathe : ByteArray := prog_7_method_25_code
def yX5_bathe : MethodName := ⟨RX5, "bathe", "(LTubHire$Tent;LTubHire$Tub;)V"⟩
abbrev cX5_burnsGas : ByteArray := prog_7_method_26_code
def yX5_burnsGas : MethodName := ⟨RX5, "burnsGas", "(I)Z"⟩
abbrev cX5_told : ByteArray := prog_7_method_27_code
def yX5_told : MethodName := ⟨RX5, "told", "(I)I"⟩
abbrev cX5_gasInAll : ByteArray := prog_7_method_28_code
def yX5_gasInAll : MethodName := ⟨RX5, "gasInAll", "()I"⟩
abbrev cX5_waitingInAll : ByteArray := prog_7_method_29_code
def yX5_waitingInAll : MethodName := ⟨RX5, "waitingInAll", "()I"⟩
abbrev cX5_toldOfTubs : ByteArray := prog_7_method_30_code
def yX5_toldOfTubs : MethodName := ⟨RX5, "toldOfTubs", "(I)I"⟩
def RX6 : String := "TubHire$Tent"
def TX6 : u_T := fun k => match k with
  | 0 => ("TubHire$Tent", "slope", "I", false)
  | 1 => ("TubHire$Tent", "tub", "I", false)
  | 2 => ("TubHire$Tent", "heater", "I", false)
  | 3 => ("TubHire$Tent", "waiting", "I", false)
  | 4 => ("TubHire$Tent", "bathed", "I", false)
  | _ => ("TubHire$Tent", "guests", "[I", true)
def tyX6 : Nat → FieldType := fun k => match k with
  | 0 => .int
  | 1 => .int
  | 2 => .int
  | 3 => .int
  | 4 => .int
  | _ => .array .int
abbrev wsX60 : List Cond := u_ws RX6 TX6 6
theorem nmX6 : ∀ a, a < 6 → ∀ b, b < 6 → a ≠ b → (TX6 a).2.1 ≠ (TX6 b).2.1 := by decide +kernel
theorem tyX6_ok : ∀ k, k < 6 → parseFieldDescriptor (TX6 k).2.2.1 = some (tyX6 k) := by decide +kernel
abbrev cX6_init : ByteArray := prog_8_method_1_code
def yX6_init : MethodName := ⟨RX6, "<init>", "()V"⟩
abbrev cX6_copyFrom : ByteArray := prog_8_method_2_code
def yX6_copyFrom : MethodName := ⟨RX6, "copyFrom", "(LTubHire$Tent;)V"⟩
abbrev cX6_told : ByteArray := prog_8_method_3_code
def yX6_told : MethodName := ⟨RX6, "told", "(I)I"⟩
abbrev cX6_guestAt : ByteArray := prog_8_method_4_code
def yX6_guestAt : MethodName := ⟨RX6, "guestAt", "(I)I"⟩
abbrev cX6_awaits : ByteArray := prog_8_method_5_code
def yX6_awaits : MethodName := ⟨RX6, "awaits", "(I)Z"⟩
abbrev cX6_append : ByteArray := prog_8_method_6_code
def yX6_append : MethodName := ⟨RX6, "append", "(I)V"⟩
abbrev cX6_removeFirst : ByteArray := prog_8_method_7_code
def yX6_removeFirst : MethodName := ⟨RX6, "removeFirst", "()V"⟩
def RX7 : String := "TubHire$Text"
def TX7 : u_T := fun k => match k with
  | 0 => ("TubHire$Text", "signs", "[C", true)
  | 1 => ("TubHire$Text", "length", "I", false)
  | 2 => ("TubHire$Text", "at", "I", false)
  | 3 => ("TubHire$Text", "command", "LTubHire$Command;", false)
  | 4 => ("TubHire$Text", "first", "I", false)
  | _ => ("TubHire$Text", "second", "I", false)
def tyX7 : Nat → FieldType := fun k => match k with
  | 0 => .array .char
  | 1 => .int
  | 2 => .int
  | 3 => .object "TubHire$Command"
  | 4 => .int
  | _ => .int
abbrev wsX70 : List Cond := u_ws RX7 TX7 6
theorem nmX7 : ∀ a, a < 6 → ∀ b, b < 6 → a ≠ b → (TX7 a).2.1 ≠ (TX7 b).2.1 := by decide +kernel
theorem tyX7_ok : ∀ k, k < 6 → parseFieldDescriptor (TX7 k).2.2.1 = some (tyX7 k) := by decide +kernel
abbrev cX7_init : ByteArray := prog_9_method_1_code
def yX7_init : MethodName := ⟨RX7, "<init>", "()V"⟩
abbrev cX7_takes : ByteArray := prog_9_method_2_code
def yX7_takes : MethodName := ⟨RX7, "takes", "(C)Z"⟩
abbrev cX7_firstFault : ByteArray := prog_9_method_3_code
def yX7_firstFault : MethodName := ⟨RX7, "firstFault", "()I"⟩
abbrev cX7_readsCommand : ByteArray := prog_9_method_4_code
def yX7_readsCommand : MethodName := ⟨RX7, "readsCommand", "()Z"⟩
abbrev cX7_readsWord : ByteArray := prog_9_method_5_code
def yX7_readsWord : MethodName := ⟨RX7, "readsWord", "()Z"⟩
abbrev cX7_fittingSigns : ByteArray := prog_9_method_6_code
def yX7_fittingSigns : MethodName := ⟨RX7, "fittingSigns", "(Ljava/lang/String;)I"⟩
abbrev cX7_readDigit : ByteArray := prog_9_method_7_code
def yX7_readDigit : MethodName := ⟨RX7, "readDigit", "()I"⟩
abbrev cX7_accepts : ByteArray := prog_9_method_8_code
def yX7_accepts : MethodName := ⟨RX7, "accepts", "(C)Z"⟩
abbrev cX7_signAt : ByteArray := prog_9_method_9_code
def yX7_signAt : MethodName := ⟨RX7, "signAt", "(I)I"⟩
def RX8 : String := "TubHire$Tub"
def TX8 : u_T := fun k => match k with
  | 0 => ("TubHire$Tub", "size", "I", false)
  | 1 => ("TubHire$Tub", "tent", "I", false)
  | 2 => ("TubHire$Tub", "torn", "I", false)
  | 3 => ("TubHire$Tub", "litres", "I", false)
  | 4 => ("TubHire$Tub", "warmth", "I", false)
  | 5 => ("TubHire$Tub", "isDirty", "Z", false)
  | _ => ("TubHire$Tub", "baths", "I", false)
def tyX8 : Nat → FieldType := fun k => match k with
  | 0 => .int
  | 1 => .int
  | 2 => .int
  | 3 => .int
  | 4 => .int
  | 5 => .boolean
  | _ => .int
abbrev wsX80 : List Cond := u_ws RX8 TX8 7
theorem nmX8 : ∀ a, a < 7 → ∀ b, b < 7 → a ≠ b → (TX8 a).2.1 ≠ (TX8 b).2.1 := by decide +kernel
theorem tyX8_ok : ∀ k, k < 7 → parseFieldDescriptor (TX8 k).2.2.1 = some (tyX8 k) := by decide +kernel
abbrev cX8_init : ByteArray := prog_10_method_1_code
def yX8_init : MethodName := ⟨RX8, "<init>", "()V"⟩
abbrev cX8_hasSize : ByteArray := prog_10_method_2_code
def yX8_hasSize : MethodName := ⟨RX8, "hasSize", "(I)Z"⟩
abbrev cX8_hasSeam : ByteArray := prog_10_method_3_code
def yX8_hasSeam : MethodName := ⟨RX8, "hasSeam", "(I)Z"⟩
abbrev cX8_degreesAnHour : ByteArray := prog_10_method_4_code
def yX8_degreesAnHour : MethodName := ⟨RX8, "degreesAnHour", "(I)I"⟩
abbrev cX8_heated : ByteArray := prog_10_method_5_code
def yX8_heated : MethodName := ⟨RX8, "heated", "(II)I"⟩
abbrev cX8_copyFrom : ByteArray := prog_10_method_6_code
def yX8_copyFrom : MethodName := ⟨RX8, "copyFrom", "(LTubHire$Tub;)V"⟩
abbrev cX8_told : ByteArray := prog_10_method_7_code
def yX8_told : MethodName := ⟨RX8, "told", "(I)I"⟩
abbrev cX8_isTorn : ByteArray := prog_10_method_8_code
def yX8_isTorn : MethodName := ⟨RX8, "isTorn", "(I)Z"⟩
abbrev cX8_tornFrom : ByteArray := prog_10_method_9_code
def yX8_tornFrom : MethodName := ⟨RX8, "tornFrom", "(I)I"⟩
abbrev cX8_tornSeams : ByteArray := prog_10_method_10_code
def yX8_tornSeams : MethodName := ⟨RX8, "tornSeams", "()I"⟩
abbrev cX8_fullLitres : ByteArray := prog_10_method_11_code
def yX8_fullLitres : MethodName := ⟨RX8, "fullLitres", "()I"⟩
abbrev cX8_lose : ByteArray := prog_10_method_12_code
def yX8_lose : MethodName := ⟨RX8, "lose", "(I)V"⟩
abbrev cX8_drain : ByteArray := prog_10_method_13_code
def yX8_drain : MethodName := ⟨RX8, "drain", "(I)V"⟩
abbrev cX8_fill : ByteArray := prog_10_method_14_code
def yX8_fill : MethodName := ⟨RX8, "fill", "()V"⟩
abbrev cX8_empty : ByteArray := prog_10_method_15_code
def yX8_empty : MethodName := ⟨RX8, "empty", "()V"⟩
def RX9 : String := "TubHire"
def TX9 : u_T := fun k => match k with
  | 0 => ("TubHire", "store", "LTubHire$Store;", true)
  | 1 => ("TubHire", "ahead", "LTubHire$Store;", true)
  | 2 => ("TubHire", "saved", "LTubHire$Store;", true)
  | 3 => ("TubHire", "past", "LTubHire$Past;", true)
  | 4 => ("TubHire", "text", "LTubHire$Text;", true)
  | 5 => ("TubHire", "written", "Ljava/lang/StringBuilder;", true)
  | 6 => ("TubHire", "isSaved", "Z", false)
  | _ => ("TubHire", "keptFault", "I", false)
def tyX9 : Nat → FieldType := fun k => match k with
  | 0 => .object "TubHire$Store"
  | 1 => .object "TubHire$Store"
  | 2 => .object "TubHire$Store"
  | 3 => .object "TubHire$Past"
  | 4 => .object "TubHire$Text"
  | 5 => .object "java/lang/StringBuilder"
  | 6 => .boolean
  | _ => .int
abbrev wsX90 : List Cond := u_ws RX9 TX9 8
theorem nmX9 : ∀ a, a < 8 → ∀ b, b < 8 → a ≠ b → (TX9 a).2.1 ≠ (TX9 b).2.1 := by decide +kernel
theorem tyX9_ok : ∀ k, k < 8 → parseFieldDescriptor (TX9 k).2.2.1 = some (tyX9 k) := by decide +kernel
abbrev cX9_init : ByteArray := prog_1_method_1_code
def yX9_init : MethodName := ⟨RX9, "<init>", "()V"⟩
abbrev cX9_tub : ByteArray := prog_1_method_2_code
def yX9_tub : MethodName := ⟨RX9, "tub", "(I)I"⟩
abbrev cX9_tubOf : ByteArray := prog_1_method_3_code
def yX9_tubOf : MethodName := ⟨RX9, "tubOf", "(II)I"⟩
abbrev cX9_torn : ByteArray := prog_1_method_4_code
def yX9_torn : MethodName := ⟨RX9, "torn", "(II)I"⟩
abbrev cX9_tear : ByteArray := prog_1_method_5_code
def yX9_tear : MethodName := ⟨RX9, "tear", "(II)I"⟩
abbrev cX9_mend : ByteArray := prog_1_method_6_code
def yX9_mend : MethodName := ⟨RX9, "mend", "(II)I"⟩
abbrev cX9_bestTub : ByteArray := prog_1_method_7_code
def yX9_bestTub : MethodName := ⟨RX9, "bestTub", "()I"⟩
abbrev cX9_out : ByteArray := prog_1_method_8_code
def yX9_out : MethodName := ⟨RX9, "out", "(II)I"⟩
abbrev cX9_back : ByteArray := prog_1_method_9_code
def yX9_back : MethodName := ⟨RX9, "back", "(I)I"⟩
abbrev cX9_tent : ByteArray := prog_1_method_10_code
def yX9_tent : MethodName := ⟨RX9, "tent", "(I)I"⟩
abbrev cX9_tentOf : ByteArray := prog_1_method_11_code
def yX9_tentOf : MethodName := ⟨RX9, "tentOf", "(II)I"⟩
abbrev cX9_waiting : ByteArray := prog_1_method_12_code
def yX9_waiting : MethodName := ⟨RX9, "waiting", "(II)I"⟩
abbrev cX9_join : ByteArray := prog_1_method_13_code
def yX9_join : MethodName := ⟨RX9, "join", "(I)I"⟩
abbrev cX9_heater : ByteArray := prog_1_method_14_code
def yX9_heater : MethodName := ⟨RX9, "heater", "()I"⟩
abbrev cX9_heaterOf : ByteArray := prog_1_method_15_code
def yX9_heaterOf : MethodName := ⟨RX9, "heaterOf", "(IZ)I"⟩
abbrev cX9_heat : ByteArray := prog_1_method_16_code
def yX9_heat : MethodName := ⟨RX9, "heat", "(II)I"⟩
abbrev cX9_cold : ByteArray := prog_1_method_17_code
def yX9_cold : MethodName := ⟨RX9, "cold", "(I)I"⟩
abbrev cX9_gas : ByteArray := prog_1_method_18_code
def yX9_gas : MethodName := ⟨RX9, "gas", "(II)I"⟩
abbrev cX9_wash : ByteArray := prog_1_method_19_code
def yX9_wash : MethodName := ⟨RX9, "wash", "(I)I"⟩
abbrev cX9_soap : ByteArray := prog_1_method_20_code
def yX9_soap : MethodName := ⟨RX9, "soap", "(I)I"⟩
abbrev cX9_pass : ByteArray := prog_1_method_21_code
def yX9_pass : MethodName := ⟨RX9, "pass", "(I)I"⟩
abbrev cX9_heatsIn : ByteArray := prog_1_method_22_code
def yX9_heatsIn : MethodName := ⟨RX9, "heatsIn", "(II)I"⟩
abbrev cX9_heatsAgain : ByteArray := prog_1_method_23_code
def yX9_heatsAgain : MethodName := ⟨RX9, "heatsAgain", "(II)I"⟩
abbrev cX9_bathesIn : ByteArray := prog_1_method_24_code
def yX9_bathesIn : MethodName := ⟨RX9, "bathesIn", "(I)I"⟩
abbrev cX9_line : ByteArray := prog_1_method_25_code
def yX9_line : MethodName := ⟨RX9, "line", "(I)I"⟩
abbrev cX9_character : ByteArray := prog_1_method_26_code
def yX9_character : MethodName := ⟨RX9, "character", "(I)C"⟩
abbrev cX9_number : ByteArray := prog_1_method_27_code
def yX9_number : MethodName := ⟨RX9, "number", "(I)I"⟩
abbrev cX9_towels : ByteArray := prog_1_method_28_code
def yX9_towels : MethodName := ⟨RX9, "towels", "()I"⟩
abbrev cX9_meanWarmth : ByteArray := prog_1_method_29_code
def yX9_meanWarmth : MethodName := ⟨RX9, "meanWarmth", "()D"⟩
abbrev cX9_bathedShare : ByteArray := prog_1_method_30_code
def yX9_bathedShare : MethodName := ⟨RX9, "bathedShare", "()F"⟩
abbrev cX9_feed : ByteArray := prog_1_method_31_code
def yX9_feed : MethodName := ⟨RX9, "feed", "(C)I"⟩
abbrev cX9_read : ByteArray := prog_1_method_32_code
def yX9_read : MethodName := ⟨RX9, "read", "()I"⟩
abbrev cX9_faultPosition : ByteArray := prog_1_method_33_code
def yX9_faultPosition : MethodName := ⟨RX9, "faultPosition", "()I"⟩
abbrev cX9_refusal : ByteArray := prog_1_method_34_code
def yX9_refusal : MethodName := ⟨RX9, "refusal", "(Z)I"⟩
abbrev cX9_undo : ByteArray := prog_1_method_35_code
def yX9_undo : MethodName := ⟨RX9, "undo", "()I"⟩
abbrev cX9_saveSnapshot : ByteArray := prog_1_method_36_code
def yX9_saveSnapshot : MethodName := ⟨RX9, "saveSnapshot", "()I"⟩
abbrev cX9_restoreSnapshot : ByteArray := prog_1_method_37_code
def yX9_restoreSnapshot : MethodName := ⟨RX9, "restoreSnapshot", "()I"⟩
abbrev cX9_settled : ByteArray := prog_1_method_38_code
def yX9_settled : MethodName := ⟨RX9, "settled", "(I)I"⟩
abbrev cX9_requireWater : ByteArray := prog_1_method_39_code
def yX9_requireWater : MethodName := ⟨RX9, "requireWater", "(II)V"⟩
abbrev cX9_hoursUntilBath : ByteArray := prog_1_method_40_code
def yX9_hoursUntilBath : MethodName := ⟨RX9, "hoursUntilBath", "(I)I"⟩
abbrev cX9_appendTub : ByteArray := prog_1_method_41_code
def yX9_appendTub : MethodName := ⟨RX9, "appendTub", "(I)V"⟩
abbrev cX9_carriedOut : ByteArray := prog_1_method_42_code
def yX9_carriedOut : MethodName := ⟨RX9, "carriedOut", "()I"⟩
abbrev cX9_outcomeOf : ByteArray := prog_1_method_43_code
def yX9_outcomeOf : MethodName := ⟨RX9, "outcomeOf", "(LTubHire$Command;II)I"⟩
def RX10 : String := "TubHireModel"
def TX10 : u_T := fun k => match k with
  | 0 => ("TubHireModel", "s", "[I", true)
  | 1 => ("TubHireModel", "before", "[I", true)
  | 2 => ("TubHireModel", "aside", "[I", true)
  | 3 => ("TubHireModel", "saved", "[I", true)
  | 4 => ("TubHireModel", "isSaved", "Z", false)
  | 5 => ("TubHireModel", "past", "[I", true)
  | 6 => ("TubHireModel", "pastMany", "I", false)
  | 7 => ("TubHireModel", "thrown", "I", false)
  | 8 => ("TubHireModel", "reason", "I", false)
  | 9 => ("TubHireModel", "detail", "I", false)
  | 10 => ("TubHireModel", "isRefused", "Z", false)
  | 11 => ("TubHireModel", "line", "[C", true)
  | 12 => ("TubHireModel", "lineMany", "I", false)
  | 13 => ("TubHireModel", "words", "[Ljava/lang/String;", true)
  | 14 => ("TubHireModel", "text", "[C", true)
  | 15 => ("TubHireModel", "length", "I", false)
  | 16 => ("TubHireModel", "place", "I", false)
  | 17 => ("TubHireModel", "isWrong", "Z", false)
  | 18 => ("TubHireModel", "fault", "I", false)
  | 19 => ("TubHireModel", "commands", "[I", true)
  | _ => ("TubHireModel", "commandMany", "I", false)
def tyX10 : Nat → FieldType := fun k => match k with
  | 0 => .array .int
  | 1 => .array .int
  | 2 => .array .int
  | 3 => .array .int
  | 4 => .boolean
  | 5 => .array .int
  | 6 => .int
  | 7 => .int
  | 8 => .int
  | 9 => .int
  | 10 => .boolean
  | 11 => .array .char
  | 12 => .int
  | 13 => .array (.object "java/lang/String")
  | 14 => .array .char
  | 15 => .int
  | 16 => .int
  | 17 => .boolean
  | 18 => .int
  | 19 => .array .int
  | _ => .int
abbrev wsX100 : List Cond := u_ws RX10 TX10 21
theorem nmX10 : ∀ a, a < 21 → ∀ b, b < 21 → a ≠ b → (TX10 a).2.1 ≠ (TX10 b).2.1 := by decide +kernel
theorem tyX10_ok : ∀ k, k < 21 → parseFieldDescriptor (TX10 k).2.2.1 = some (tyX10 k) := by decide +kernel
abbrev cX10_init : ByteArray := prog_12_method_1_code
def yX10_init : MethodName := ⟨RX10, "<init>", "()V"⟩
abbrev cX10_thrown : ByteArray := prog_12_method_2_code
def yX10_thrown : MethodName := ⟨RX10, "thrown", "()I"⟩
abbrev cX10_in : ByteArray := prog_12_method_3_code
def yX10_in : MethodName := ⟨RX10, "in", "(III)Z"⟩
abbrev cX10_keep : ByteArray := prog_12_method_4_code
def yX10_keep : MethodName := ⟨RX10, "keep", "()V"⟩
abbrev cX10_ends : ByteArray := prog_12_method_5_code
def yX10_ends : MethodName := ⟨RX10, "ends", "(I)I"⟩
abbrev cX10_fails : ByteArray := prog_12_method_6_code
def yX10_fails : MethodName := ⟨RX10, "fails", "(I)I"⟩
abbrev cX10_refuse : ByteArray := prog_12_method_7_code
def yX10_refuse : MethodName := ⟨RX10, "refuse", "(III)I"⟩
abbrev cX10_refusal : ByteArray := prog_12_method_8_code
def yX10_refusal : MethodName := ⟨RX10, "refusal", "(Z)I"⟩
abbrev cX10_tub1 : ByteArray := prog_12_method_9_code
def yX10_tub1 : MethodName := ⟨RX10, "tub1", "(II)I"⟩
abbrev cX10_setTub : ByteArray := prog_12_method_10_code
def yX10_setTub : MethodName := ⟨RX10, "setTub", "(III)V"⟩
abbrev cX10_tent1 : ByteArray := prog_12_method_11_code
def yX10_tent1 : MethodName := ⟨RX10, "tent1", "(II)I"⟩
abbrev cX10_setTent : ByteArray := prog_12_method_12_code
def yX10_setTent : MethodName := ⟨RX10, "setTent", "(III)V"⟩
abbrev cX10_isTub : ByteArray := prog_12_method_13_code
def yX10_isTub : MethodName := ⟨RX10, "isTub", "(I)Z"⟩
abbrev cX10_isTent : ByteArray := prog_12_method_14_code
def yX10_isTent : MethodName := ⟨RX10, "isTent", "(I)Z"⟩
abbrev cX10_isHeater : ByteArray := prog_12_method_15_code
def yX10_isHeater : MethodName := ⟨RX10, "isHeater", "(I)Z"⟩
abbrev cX10_isSeam : ByteArray := prog_12_method_16_code
def yX10_isSeam : MethodName := ⟨RX10, "isSeam", "(II)Z"⟩
abbrev cX10_isTorn : ByteArray := prog_12_method_17_code
def yX10_isTorn : MethodName := ⟨RX10, "isTorn", "(II)Z"⟩
abbrev cX10_tornMany : ByteArray := prog_12_method_18_code
def yX10_tornMany : MethodName := ⟨RX10, "tornMany", "(I)I"⟩
abbrev cX10_firstTorn : ByteArray := prog_12_method_19_code
def yX10_firstTorn : MethodName := ⟨RX10, "firstTorn", "(II)I"⟩
abbrev cX10_tub : ByteArray := prog_12_method_20_code
def yX10_tub : MethodName := ⟨RX10, "tub", "(I)I"⟩
abbrev cX10_tubOf : ByteArray := prog_12_method_21_code
def yX10_tubOf : MethodName := ⟨RX10, "tubOf", "(II)I"⟩
abbrev cX10_torn : ByteArray := prog_12_method_22_code
def yX10_torn : MethodName := ⟨RX10, "torn", "(II)I"⟩
abbrev cX10_tear : ByteArray := prog_12_method_23_code
def yX10_tear : MethodName := ⟨RX10, "tear", "(II)I"⟩
abbrev cX10_doMend : ByteArray := prog_12_method_24_code
def yX10_doMend : MethodName := ⟨RX10, "doMend", "(II)I"⟩
abbrev cX10_mend : ByteArray := prog_12_method_25_code
def yX10_mend : MethodName := ⟨RX10, "mend", "(II)I"⟩
abbrev cX10_bestTub : ByteArray := prog_12_method_26_code
def yX10_bestTub : MethodName := ⟨RX10, "bestTub", "()I"⟩
abbrev cX10_doOut : ByteArray := prog_12_method_27_code
def yX10_doOut : MethodName := ⟨RX10, "doOut", "(II)I"⟩
abbrev cX10_out : ByteArray := prog_12_method_28_code
def yX10_out : MethodName := ⟨RX10, "out", "(II)I"⟩
abbrev cX10_doBack : ByteArray := prog_12_method_29_code
def yX10_doBack : MethodName := ⟨RX10, "doBack", "(I)I"⟩
abbrev cX10_back : ByteArray := prog_12_method_30_code
def yX10_back : MethodName := ⟨RX10, "back", "(I)I"⟩
abbrev cX10_tent : ByteArray := prog_12_method_31_code
def yX10_tent : MethodName := ⟨RX10, "tent", "(I)I"⟩
abbrev cX10_tentOf : ByteArray := prog_12_method_32_code
def yX10_tentOf : MethodName := ⟨RX10, "tentOf", "(II)I"⟩
abbrev cX10_waiting : ByteArray := prog_12_method_33_code
def yX10_waiting : MethodName := ⟨RX10, "waiting", "(II)I"⟩
abbrev cX10_doJoin : ByteArray := prog_12_method_34_code
def yX10_doJoin : MethodName := ⟨RX10, "doJoin", "(I)I"⟩
abbrev cX10_join : ByteArray := prog_12_method_35_code
def yX10_join : MethodName := ⟨RX10, "join", "(I)I"⟩
abbrev cX10_gasOf : ByteArray := prog_12_method_36_code
def yX10_gasOf : MethodName := ⟨RX10, "gasOf", "(I)I"⟩
abbrev cX10_tentOfHeater : ByteArray := prog_12_method_37_code
def yX10_tentOfHeater : MethodName := ⟨RX10, "tentOfHeater", "(I)I"⟩
abbrev cX10_heater : ByteArray := prog_12_method_38_code
def yX10_heater : MethodName := ⟨RX10, "heater", "()I"⟩
abbrev cX10_heaterOf : ByteArray := prog_12_method_39_code
def yX10_heaterOf : MethodName := ⟨RX10, "heaterOf", "(IZ)I"⟩
abbrev cX10_doHeat : ByteArray := prog_12_method_40_code
def yX10_doHeat : MethodName := ⟨RX10, "doHeat", "(II)I"⟩
abbrev cX10_heat : ByteArray := prog_12_method_41_code
def yX10_heat : MethodName := ⟨RX10, "heat", "(II)I"⟩
abbrev cX10_doCold : ByteArray := prog_12_method_42_code
def yX10_doCold : MethodName := ⟨RX10, "doCold", "(I)I"⟩
abbrev cX10_cold : ByteArray := prog_12_method_43_code
def yX10_cold : MethodName := ⟨RX10, "cold", "(I)I"⟩
abbrev cX10_gas : ByteArray := prog_12_method_44_code
def yX10_gas : MethodName := ⟨RX10, "gas", "(II)I"⟩
abbrev cX10_doWash : ByteArray := prog_12_method_45_code
def yX10_doWash : MethodName := ⟨RX10, "doWash", "(I)I"⟩
abbrev cX10_wash : ByteArray := prog_12_method_46_code
def yX10_wash : MethodName := ⟨RX10, "wash", "(I)I"⟩
abbrev cX10_doSoap : ByteArray := prog_12_method_47_code
def yX10_doSoap : MethodName := ⟨RX10, "doSoap", "(I)I"⟩
abbrev cX10_soap : ByteArray := prog_12_method_48_code
def yX10_soap : MethodName := ⟨RX10, "soap", "(I)I"⟩
abbrev cX10_bathes : ByteArray := prog_12_method_49_code
def yX10_bathes : MethodName := ⟨RX10, "bathes", "(II)V"⟩
abbrev cX10_goTent : ByteArray := prog_12_method_50_code
def yX10_goTent : MethodName := ⟨RX10, "goTent", "(II)I"⟩
abbrev cX10_goHour : ByteArray := prog_12_method_51_code
def yX10_goHour : MethodName := ⟨RX10, "goHour", "()I"⟩
abbrev cX10_doPass : ByteArray := prog_12_method_52_code
def yX10_doPass : MethodName := ⟨RX10, "doPass", "(I)I"⟩
abbrev cX10_pass : ByteArray := prog_12_method_53_code
def yX10_pass : MethodName := ⟨RX10, "pass", "(I)I"⟩
abbrev cX10_heatsIn : ByteArray := prog_12_method_54_code
def yX10_heatsIn : MethodName := ⟨RX10, "heatsIn", "(II)I"⟩
abbrev cX10_heatsAgain : ByteArray := prog_12_method_55_code
def yX10_heatsAgain : MethodName := ⟨RX10, "heatsAgain", "(II)I"⟩
abbrev cX10_waits : ByteArray := prog_12_method_56_code
def yX10_waits : MethodName := ⟨RX10, "waits", "(I)Z"⟩
abbrev cX10_bathesIn : ByteArray := prog_12_method_57_code
def yX10_bathesIn : MethodName := ⟨RX10, "bathesIn", "(I)I"⟩
abbrev cX10_says : ByteArray := prog_12_method_58_code
def yX10_says : MethodName := ⟨RX10, "says", "(Ljava/lang/String;)V"⟩
abbrev cX10_saysNumber : ByteArray := prog_12_method_59_code
def yX10_saysNumber : MethodName := ⟨RX10, "saysNumber", "(I)V"⟩
abbrev cX10_saysTub : ByteArray := prog_12_method_60_code
def yX10_saysTub : MethodName := ⟨RX10, "saysTub", "(I)V"⟩
abbrev cX10_line : ByteArray := prog_12_method_61_code
def yX10_line : MethodName := ⟨RX10, "line", "(I)I"⟩
abbrev cX10_character : ByteArray := prog_12_method_62_code
def yX10_character : MethodName := ⟨RX10, "character", "(I)C"⟩
abbrev cX10_overTubs : ByteArray := prog_12_method_63_code
def yX10_overTubs : MethodName := ⟨RX10, "overTubs", "(I)I"⟩
abbrev cX10_allGas : ByteArray := prog_12_method_64_code
def yX10_allGas : MethodName := ⟨RX10, "allGas", "()I"⟩
abbrev cX10_allWait : ByteArray := prog_12_method_65_code
def yX10_allWait : MethodName := ⟨RX10, "allWait", "()I"⟩
abbrev cX10_number : ByteArray := prog_12_method_66_code
def yX10_number : MethodName := ⟨RX10, "number", "(I)I"⟩
abbrev cX10_towels : ByteArray := prog_12_method_67_code
def yX10_towels : MethodName := ⟨RX10, "towels", "()I"⟩
abbrev cX10_meanWarmth : ByteArray := prog_12_method_68_code
def yX10_meanWarmth : MethodName := ⟨RX10, "meanWarmth", "()D"⟩
abbrev cX10_bathedShare : ByteArray := prog_12_method_69_code
def yX10_bathedShare : MethodName := ⟨RX10, "bathedShare", "()F"⟩
abbrev cX10_feed : ByteArray := prog_12_method_70_code
def yX10_feed : MethodName := ⟨RX10, "feed", "(C)I"⟩
abbrev cX10_isHere : ByteArray := prog_12_method_71_code
def yX10_isHere : MethodName := ⟨RX10, "isHere", "(CC)Z"⟩
abbrev cX10_sign : ByteArray := prog_12_method_72_code
def yX10_sign : MethodName := ⟨RX10, "sign", "(CC)I"⟩
abbrev cX10_digit : ByteArray := prog_12_method_73_code
def yX10_digit : MethodName := ⟨RX10, "digit", "()I"⟩
abbrev cX10_figures : ByteArray := prog_12_method_74_code
def yX10_figures : MethodName := ⟨RX10, "figures", "()I"⟩
abbrev cX10_alike : ByteArray := prog_12_method_75_code
def yX10_alike : MethodName := ⟨RX10, "alike", "(Ljava/lang/String;)I"⟩
abbrev cX10_readCommand : ByteArray := prog_12_method_76_code
def yX10_readCommand : MethodName := ⟨RX10, "readCommand", "()V"⟩
abbrev cX10_does : ByteArray := prog_12_method_77_code
def yX10_does : MethodName := ⟨RX10, "does", "(I)V"⟩
abbrev cX10_read : ByteArray := prog_12_method_78_code
def yX10_read : MethodName := ⟨RX10, "read", "()I"⟩
abbrev cX10_faultPosition : ByteArray := prog_12_method_79_code
def yX10_faultPosition : MethodName := ⟨RX10, "faultPosition", "()I"⟩
abbrev cX10_undo : ByteArray := prog_12_method_80_code
def yX10_undo : MethodName := ⟨RX10, "undo", "()I"⟩
abbrev cX10_saveSnapshot : ByteArray := prog_12_method_81_code
def yX10_saveSnapshot : MethodName := ⟨RX10, "saveSnapshot", "()I"⟩
abbrev cX10_restoreSnapshot : ByteArray := prog_12_method_82_code
def yX10_restoreSnapshot : MethodName := ⟨RX10, "restoreSnapshot", "()I"⟩
def RJx145de : String := "java/io/Serializable"
def TJx145de : u_T := fun k => match k with
  | _ => ("", "", "", false)
def tyJx145de : Nat → FieldType := fun k => match k with
  | _ => .int
abbrev wsJx145de0 : List Cond := u_ws RJx145de TJx145de 0
theorem nmJx145de : ∀ a, a < 0 → ∀ b, b < 0 → a ≠ b → (TJx145de a).2.1 ≠ (TJx145de b).2.1 := by decide +kernel
theorem tyJx145de_ok : ∀ k, k < 0 → parseFieldDescriptor (TJx145de k).2.2.1 = some (tyJx145de k) := by decide +kernel
def RJ5 : String := "java/lang/AbstractStringBuilder"
def TJ5 : u_T := fun k => match k with
  | _ => ("", "", "", false)
def tyJ5 : Nat → FieldType := fun k => match k with
  | _ => .int
abbrev wsJ50 : List Cond := u_ws RJ5 TJ5 0
theorem nmJ5 : ∀ a, a < 0 → ∀ b, b < 0 → a ≠ b → (TJ5 a).2.1 ≠ (TJ5 b).2.1 := by decide +kernel
theorem tyJ5_ok : ∀ k, k < 0 → parseFieldDescriptor (TJ5 k).2.2.1 = some (tyJ5 k) := by decide +kernel
abbrev cJ5_init_d00df : ByteArray := prog_14_method_2_code
def yJ5_init_d00df : MethodName := ⟨RJ5, "<init>", "(I)V"⟩
abbrev cJ5_length_8abf5 : ByteArray := prog_14_method_6_code
def yJ5_length_8abf5 : MethodName := ⟨RJ5, "length", "()I"⟩
abbrev cJ5_ensureCapacityInternal_d00df : ByteArray := prog_14_method_9_code
def yJ5_ensureCapacityInternal_d00df : MethodName := ⟨RJ5, "ensureCapacityInternal", "(I)V"⟩
abbrev cJ5_newCapacity_0f7a4 : ByteArray := prog_14_method_10_code
def yJ5_newCapacity_0f7a4 : MethodName := ⟨RJ5, "newCapacity", "(I)I"⟩
abbrev cJ5_inflate_da8c8 : ByteArray := prog_14_method_11_code
def yJ5_inflate_da8c8 : MethodName := ⟨RJ5, "inflate", "()V"⟩
abbrev cJ5_setLength_d00df : ByteArray := prog_14_method_13_code
def yJ5_setLength_d00df : MethodName := ⟨RJ5, "setLength", "(I)V"⟩
abbrev cJ5_charAt_5068e : ByteArray := prog_14_method_14_code
def yJ5_charAt_5068e : MethodName := ⟨RJ5, "charAt", "(I)C"⟩
abbrev cJ5_append_cf1ce : ByteArray := prog_14_method_22_code
def yJ5_append_cf1ce : MethodName := ⟨RJ5, "append", "(Ljava/lang/String;)Ljava/lang/AbstractStringBuilder;"⟩
abbrev cJ5_appendNull_278bc : ByteArray := prog_14_method_26_code
def yJ5_appendNull_278bc : MethodName := ⟨RJ5, "appendNull", "()Ljava/lang/AbstractStringBuilder;"⟩
abbrev cJ5_append_3fe6f : ByteArray := prog_14_method_31_code
def yJ5_append_3fe6f : MethodName := ⟨RJ5, "append", "(C)Ljava/lang/AbstractStringBuilder;"⟩
abbrev cJ5_append_c97b9 : ByteArray := prog_14_method_32_code
def yJ5_append_c97b9 : MethodName := ⟨RJ5, "append", "(I)Ljava/lang/AbstractStringBuilder;"⟩
abbrev cJ5_getValue_6d5f1 : ByteArray := prog_14_method_64_code
def yJ5_getValue_6d5f1 : MethodName := ⟨RJ5, "getValue", "()[B"⟩
abbrev cJ5_isLatin1_aae02 : ByteArray := prog_14_method_68_code
def yJ5_isLatin1_aae02 : MethodName := ⟨RJ5, "isLatin1", "()Z"⟩
abbrev cJ5_inflateIfNeededFor_a7421 : ByteArray := prog_14_method_71_code
def yJ5_inflateIfNeededFor_a7421 : MethodName := ⟨RJ5, "inflateIfNeededFor", "(Ljava/lang/String;)V"⟩
abbrev cJ5_putStringAt_47b60 : ByteArray := prog_14_method_73_code
def yJ5_putStringAt_47b60 : MethodName := ⟨RJ5, "putStringAt", "(ILjava/lang/String;)V"⟩
def RJx2cfe8 : String := "java/lang/Appendable"
def TJx2cfe8 : u_T := fun k => match k with
  | _ => ("", "", "", false)
def tyJx2cfe8 : Nat → FieldType := fun k => match k with
  | _ => .int
abbrev wsJx2cfe80 : List Cond := u_ws RJx2cfe8 TJx2cfe8 0
theorem nmJx2cfe8 : ∀ a, a < 0 → ∀ b, b < 0 → a ≠ b → (TJx2cfe8 a).2.1 ≠ (TJx2cfe8 b).2.1 := by decide +kernel
theorem tyJx2cfe8_ok : ∀ k, k < 0 → parseFieldDescriptor (TJx2cfe8 k).2.2.1 = some (tyJx2cfe8 k) := by decide +kernel
def RJx00060 : String := "java/lang/ArrayIndexOutOfBoundsException"
def TJx00060 : u_T := fun k => match k with
  | 0 => ("java/lang/Throwable", "backtrace", "Ljava/lang/Object;", false)
  | 1 => ("java/lang/Throwable", "detailMessage", "Ljava/lang/String;", false)
  | 2 => ("java/lang/Throwable", "cause", "Ljava/lang/Throwable;", false)
  | 3 => ("java/lang/Throwable", "stackTrace", "[Ljava/lang/StackTraceElement;", false)
  | 4 => ("java/lang/Throwable", "depth", "I", false)
  | _ => ("java/lang/Throwable", "suppressedExceptions", "Ljava/util/List;", false)
def tyJx00060 : Nat → FieldType := fun k => match k with
  | 0 => .object "java/lang/Object"
  | 1 => .object "java/lang/String"
  | 2 => .object "java/lang/Throwable"
  | 3 => .array (.object "java/lang/StackTraceElement")
  | 4 => .int
  | _ => .object "java/util/List"
abbrev wsJx000600 : List Cond := u_ws RJx00060 TJx00060 6
theorem nmJx00060 : ∀ a, a < 6 → ∀ b, b < 6 → a ≠ b → (TJx00060 a).2.1 ≠ (TJx00060 b).2.1 := by decide +kernel
theorem tyJx00060_ok : ∀ k, k < 6 → parseFieldDescriptor (TJx00060 k).2.2.1 = some (tyJx00060 k) := by decide +kernel
abbrev cJx00060_init_a7421 : ByteArray := prog_17_method_2_code
def yJx00060_init_a7421 : MethodName := ⟨RJx00060, "<init>", "(Ljava/lang/String;)V"⟩
abbrev cJx00060_init_d00df : ByteArray := prog_17_method_3_code
def yJx00060_init_d00df : MethodName := ⟨RJx00060, "<init>", "(I)V"⟩
def RJx9f9b0 : String := "java/lang/CharSequence"
def TJx9f9b0 : u_T := fun k => match k with
  | _ => ("", "", "", false)
def tyJx9f9b0 : Nat → FieldType := fun k => match k with
  | _ => .int
abbrev wsJx9f9b00 : List Cond := u_ws RJx9f9b0 TJx9f9b0 0
theorem nmJx9f9b0 : ∀ a, a < 0 → ∀ b, b < 0 → a ≠ b → (TJx9f9b0 a).2.1 ≠ (TJx9f9b0 b).2.1 := by decide +kernel
theorem tyJx9f9b0_ok : ∀ k, k < 0 → parseFieldDescriptor (TJx9f9b0 k).2.2.1 = some (tyJx9f9b0 k) := by decide +kernel
def RJx8e188 : String := "java/lang/Cloneable"
def TJx8e188 : u_T := fun k => match k with
  | _ => ("", "", "", false)
def tyJx8e188 : Nat → FieldType := fun k => match k with
  | _ => .int
abbrev wsJx8e1880 : List Cond := u_ws RJx8e188 TJx8e188 0
theorem nmJx8e188 : ∀ a, a < 0 → ∀ b, b < 0 → a ≠ b → (TJx8e188 a).2.1 ≠ (TJx8e188 b).2.1 := by decide +kernel
theorem tyJx8e188_ok : ∀ k, k < 0 → parseFieldDescriptor (TJx8e188 k).2.2.1 = some (tyJx8e188 k) := by decide +kernel
def RJxb160c : String := "java/lang/Comparable"
def TJxb160c : u_T := fun k => match k with
  | _ => ("", "", "", false)
def tyJxb160c : Nat → FieldType := fun k => match k with
  | _ => .int
abbrev wsJxb160c0 : List Cond := u_ws RJxb160c TJxb160c 0
theorem nmJxb160c : ∀ a, a < 0 → ∀ b, b < 0 → a ≠ b → (TJxb160c a).2.1 ≠ (TJxb160c b).2.1 := by decide +kernel
theorem tyJxb160c_ok : ∀ k, k < 0 → parseFieldDescriptor (TJxb160c k).2.2.1 = some (tyJxb160c k) := by decide +kernel
def RJx29ce0 : String := "java/lang/Enum"
def TJx29ce0 : u_T := fun k => match k with
  | _ => ("", "", "", false)
def tyJx29ce0 : Nat → FieldType := fun k => match k with
  | _ => .int
abbrev wsJx29ce00 : List Cond := u_ws RJx29ce0 TJx29ce0 0
theorem nmJx29ce0 : ∀ a, a < 0 → ∀ b, b < 0 → a ≠ b → (TJx29ce0 a).2.1 ≠ (TJx29ce0 b).2.1 := by decide +kernel
theorem tyJx29ce0_ok : ∀ k, k < 0 → parseFieldDescriptor (TJx29ce0 k).2.2.1 = some (tyJx29ce0 k) := by decide +kernel
abbrev cJx29ce0_ordinal_8abf5 : ByteArray := prog_21_method_2_code
def yJx29ce0_ordinal_8abf5 : MethodName := ⟨RJx29ce0, "ordinal", "()I"⟩
def RJ6 : String := "java/lang/Integer"
def TJ6 : u_T := fun k => match k with
  | _ => ("", "", "", false)
def tyJ6 : Nat → FieldType := fun k => match k with
  | _ => .int
abbrev wsJ60 : List Cond := u_ws RJ6 TJ6 0
theorem nmJ6 : ∀ a, a < 0 → ∀ b, b < 0 → a ≠ b → (TJ6 a).2.1 ≠ (TJ6 b).2.1 := by decide +kernel
theorem tyJ6_ok : ∀ k, k < 0 → parseFieldDescriptor (TJ6 k).2.2.1 = some (tyJ6 k) := by decide +kernel
abbrev cJ6_getChars_ba4f3 : ByteArray := prog_26_method_12_code
def yJ6_getChars_ba4f3 : MethodName := ⟨RJ6, "getChars", "(II[B)I"⟩
abbrev cJ6_stringSize_0f7a4 : ByteArray := prog_26_method_13_code
def yJ6_stringSize_0f7a4 : MethodName := ⟨RJ6, "stringSize", "(I)I"⟩
abbrev cJ6_bitCount_0f7a4 : ByteArray := prog_26_method_49_code
def yJ6_bitCount_0f7a4 : MethodName := ⟨RJ6, "bitCount", "(I)I"⟩
def RJ9 : String := "java/lang/Math"
def TJ9 : u_T := fun k => match k with
  | _ => ("", "", "", false)
def tyJ9 : Nat → FieldType := fun k => match k with
  | _ => .int
abbrev wsJ90 : List Cond := u_ws RJ9 TJ9 0
theorem nmJ9 : ∀ a, a < 0 → ∀ b, b < 0 → a ≠ b → (TJ9 a).2.1 ≠ (TJ9 b).2.1 := by decide +kernel
theorem tyJ9_ok : ∀ k, k < 0 → parseFieldDescriptor (TJ9 k).2.2.1 = some (tyJ9 k) := by decide +kernel
abbrev cJ9_floorMod_7cf53 : ByteArray := prog_27_method_50_code
def yJ9_floorMod_7cf53 : MethodName := ⟨RJ9, "floorMod", "(II)I"⟩
abbrev cJ9_max_7cf53 : ByteArray := prog_27_method_65_code
def yJ9_max_7cf53 : MethodName := ⟨RJ9, "max", "(II)I"⟩
abbrev cJ9_min_7cf53 : ByteArray := prog_27_method_69_code
def yJ9_min_7cf53 : MethodName := ⟨RJ9, "min", "(II)I"⟩
def RJxd2413 : String := "java/lang/Number"
def TJxd2413 : u_T := fun k => match k with
  | _ => ("", "", "", false)
def tyJxd2413 : Nat → FieldType := fun k => match k with
  | _ => .int
abbrev wsJxd24130 : List Cond := u_ws RJxd2413 TJxd2413 0
theorem nmJxd2413 : ∀ a, a < 0 → ∀ b, b < 0 → a ≠ b → (TJxd2413 a).2.1 ≠ (TJxd2413 b).2.1 := by decide +kernel
theorem tyJxd2413_ok : ∀ k, k < 0 → parseFieldDescriptor (TJxd2413 k).2.2.1 = some (tyJxd2413 k) := by decide +kernel
def RJ0 : String := "java/lang/String"
def TJ0 : u_T := fun k => match k with
  | 0 => ("java/lang/String", "value", "[B", true)
  | 1 => ("java/lang/String", "coder", "B", true)
  | 2 => ("java/lang/String", "hash", "I", false)
  | _ => ("java/lang/String", "hashIsZero", "Z", false)
def tyJ0 : Nat → FieldType := fun k => match k with
  | 0 => .array .byte
  | 1 => .byte
  | 2 => .int
  | _ => .boolean
abbrev wsJ00 : List Cond := u_ws RJ0 TJ0 4
theorem nmJ0 : ∀ a, a < 4 → ∀ b, b < 4 → a ≠ b → (TJ0 a).2.1 ≠ (TJ0 b).2.1 := by decide +kernel
theorem tyJ0_ok : ∀ k, k < 4 → parseFieldDescriptor (TJ0 k).2.2.1 = some (tyJ0 k) := by decide +kernel
abbrev cJ0_init_81219 : ByteArray := prog_30_method_53_code
def yJ0_init_81219 : MethodName := ⟨RJ0, "<init>", "(Ljava/lang/StringBuilder;)V"⟩
abbrev cJ0_length_8abf5 : ByteArray := prog_30_method_54_code
def yJ0_length_8abf5 : MethodName := ⟨RJ0, "length", "()I"⟩
abbrev cJ0_charAt_5068e : ByteArray := prog_30_method_56_code
def yJ0_charAt_5068e : MethodName := ⟨RJ0, "charAt", "(I)C"⟩
abbrev cJ0_getBytes_840e7 : ByteArray := prog_30_method_147_code
def yJ0_getBytes_840e7 : MethodName := ⟨RJ0, "getBytes", "([BIB)V"⟩
abbrev cJ0_init_db425 : ByteArray := prog_30_method_150_code
def yJ0_init_db425 : MethodName := ⟨RJ0, "<init>", "(Ljava/lang/AbstractStringBuilder;Ljava/lang/Void;)V"⟩
abbrev cJ0_coder_7d493 : ByteArray := prog_30_method_152_code
def yJ0_coder_7d493 : MethodName := ⟨RJ0, "coder", "()B"⟩
abbrev cJ0_isLatin1_aae02 : ByteArray := prog_30_method_154_code
def yJ0_isLatin1_aae02 : MethodName := ⟨RJ0, "isLatin1", "()Z"⟩
abbrev cJ0_checkIndex_df160 : ByteArray := prog_30_method_155_code
def yJ0_checkIndex_df160 : MethodName := ⟨RJ0, "checkIndex", "(II)V"⟩
abbrev cJ0_checkBoundsOffCount_cabcc : ByteArray := prog_30_method_157_code
def yJ0_checkBoundsOffCount_cabcc : MethodName := ⟨RJ0, "checkBoundsOffCount", "(III)I"⟩
abbrev cJ0_checkBoundsBeginEnd_23922 : ByteArray := prog_30_method_158_code
def yJ0_checkBoundsBeginEnd_23922 : MethodName := ⟨RJ0, "checkBoundsBeginEnd", "(III)V"⟩
def RJ4 : String := "java/lang/StringBuilder"
def TJ4 : u_T := fun k => match k with
  | 0 => ("java/lang/AbstractStringBuilder", "value", "[B", false)
  | 1 => ("java/lang/AbstractStringBuilder", "coder", "B", false)
  | 2 => ("java/lang/AbstractStringBuilder", "maybeLatin1", "Z", false)
  | _ => ("java/lang/AbstractStringBuilder", "count", "I", false)
def tyJ4 : Nat → FieldType := fun k => match k with
  | 0 => .array .byte
  | 1 => .byte
  | 2 => .boolean
  | _ => .int
abbrev wsJ40 : List Cond := u_ws RJ4 TJ4 4
theorem nmJ4 : ∀ a, a < 4 → ∀ b, b < 4 → a ≠ b → (TJ4 a).2.1 ≠ (TJ4 b).2.1 := by decide +kernel
theorem tyJ4_ok : ∀ k, k < 4 → parseFieldDescriptor (TJ4 k).2.2.1 = some (tyJ4 k) := by decide +kernel
abbrev cJ4_init_da8c8 : ByteArray := prog_31_method_1_code
def yJ4_init_da8c8 : MethodName := ⟨RJ4, "<init>", "()V"⟩
abbrev cJ4_append_15ec4 : ByteArray := prog_31_method_7_code
def yJ4_append_15ec4 : MethodName := ⟨RJ4, "append", "(Ljava/lang/String;)Ljava/lang/StringBuilder;"⟩
abbrev cJ4_append_cf468 : ByteArray := prog_31_method_14_code
def yJ4_append_cf468 : MethodName := ⟨RJ4, "append", "(C)Ljava/lang/StringBuilder;"⟩
abbrev cJ4_append_bf812 : ByteArray := prog_31_method_15_code
def yJ4_append_bf812 : MethodName := ⟨RJ4, "append", "(I)Ljava/lang/StringBuilder;"⟩
abbrev cJ4_toString_0e30d : ByteArray := prog_31_method_42_code
def yJ4_toString_0e30d : MethodName := ⟨RJ4, "toString", "()Ljava/lang/String;"⟩
abbrev cJ4_charAt_5068e : ByteArray := prog_31_method_88_code
def yJ4_charAt_5068e : MethodName := ⟨RJ4, "charAt", "(I)C"⟩
abbrev cJ4_setLength_d00df : ByteArray := prog_31_method_89_code
def yJ4_setLength_d00df : MethodName := ⟨RJ4, "setLength", "(I)V"⟩
abbrev cJ4_length_8abf5 : ByteArray := prog_31_method_93_code
def yJ4_length_8abf5 : MethodName := ⟨RJ4, "length", "()I"⟩
def RJx7c733 : String := "java/lang/StringIndexOutOfBoundsException"
def TJx7c733 : u_T := fun k => match k with
  | 0 => ("java/lang/Throwable", "backtrace", "Ljava/lang/Object;", false)
  | 1 => ("java/lang/Throwable", "detailMessage", "Ljava/lang/String;", false)
  | 2 => ("java/lang/Throwable", "cause", "Ljava/lang/Throwable;", false)
  | 3 => ("java/lang/Throwable", "stackTrace", "[Ljava/lang/StackTraceElement;", false)
  | 4 => ("java/lang/Throwable", "depth", "I", false)
  | _ => ("java/lang/Throwable", "suppressedExceptions", "Ljava/util/List;", false)
def tyJx7c733 : Nat → FieldType := fun k => match k with
  | 0 => .object "java/lang/Object"
  | 1 => .object "java/lang/String"
  | 2 => .object "java/lang/Throwable"
  | 3 => .array (.object "java/lang/StackTraceElement")
  | 4 => .int
  | _ => .object "java/util/List"
abbrev wsJx7c7330 : List Cond := u_ws RJx7c733 TJx7c733 6
theorem nmJx7c733 : ∀ a, a < 6 → ∀ b, b < 6 → a ≠ b → (TJx7c733 a).2.1 ≠ (TJx7c733 b).2.1 := by decide +kernel
theorem tyJx7c733_ok : ∀ k, k < 6 → parseFieldDescriptor (TJx7c733 k).2.2.1 = some (tyJx7c733 k) := by decide +kernel
abbrev cJx7c733_init_d00df : ByteArray := prog_32_method_3_code
def yJx7c733_init_d00df : MethodName := ⟨RJx7c733, "<init>", "(I)V"⟩
def RJ1 : String := "java/lang/StringLatin1"
def TJ1 : u_T := fun k => match k with
  | _ => ("", "", "", false)
def tyJ1 : Nat → FieldType := fun k => match k with
  | _ => .int
abbrev wsJ10 : List Cond := u_ws RJ1 TJ1 0
theorem nmJ1 : ∀ a, a < 0 → ∀ b, b < 0 → a ≠ b → (TJ1 a).2.1 ≠ (TJ1 b).2.1 := by decide +kernel
theorem tyJ1_ok : ∀ k, k < 0 → parseFieldDescriptor (TJ1 k).2.2.1 = some (tyJ1 k) := by decide +kernel
abbrev cJ1_charAt_3b067 : ByteArray := prog_33_method_2_code
def yJ1_charAt_3b067 : MethodName := ⟨RJ1, "charAt", "([BI)C"⟩
abbrev cJ1_canEncode_fc78d : ByteArray := prog_33_method_3_code
def yJ1_canEncode_fc78d : MethodName := ⟨RJ1, "canEncode", "(C)Z"⟩
abbrev cJ1_fillNull_b72d1 : ByteArray := prog_33_method_48_code
def yJ1_fillNull_b72d1 : MethodName := ⟨RJ1, "fillNull", "([BII)V"⟩
abbrev cJ1_inflate_0e8fd : ByteArray := prog_33_method_50_code
def yJ1_inflate_0e8fd : MethodName := ⟨RJ1, "inflate", "([BI[BII)V"⟩
def RJ2 : String := "java/lang/StringUTF16"
def TJ2 : u_T := fun k => match k with
  | _ => ("", "", "", false)
def tyJ2 : Nat → FieldType := fun k => match k with
  | _ => .int
abbrev wsJ20 : List Cond := u_ws RJ2 TJ2 0
theorem nmJ2 : ∀ a, a < 0 → ∀ b, b < 0 → a ≠ b → (TJ2 a).2.1 ≠ (TJ2 b).2.1 := by decide +kernel
theorem tyJ2_ok : ∀ k, k < 0 → parseFieldDescriptor (TJ2 k).2.2.1 = some (tyJ2 k) := by decide +kernel
abbrev cJ2_newBytesFor_77867 : ByteArray := prog_34_method_2_code
def yJ2_newBytesFor_77867 : MethodName := ⟨RJ2, "newBytesFor", "(I)[B"⟩
abbrev cJ2_newBytesLength_0f7a4 : ByteArray := prog_34_method_3_code
def yJ2_newBytesLength_0f7a4 : MethodName := ⟨RJ2, "newBytesLength", "(I)I"⟩
abbrev cJ2_putChar_b72d1 : ByteArray := prog_34_method_4_code
def yJ2_putChar_b72d1 : MethodName := ⟨RJ2, "putChar", "([BII)V"⟩
abbrev cJ2_getChar_3b067 : ByteArray := prog_34_method_5_code
def yJ2_getChar_3b067 : MethodName := ⟨RJ2, "getChar", "([BI)C"⟩
abbrev cJ2_length_9d52b : ByteArray := prog_34_method_6_code
def yJ2_length_9d52b : MethodName := ⟨RJ2, "length", "([B)I"⟩
abbrev cJ2_coderFromArrayLen_85cad : ByteArray := prog_34_method_15_code
def yJ2_coderFromArrayLen_85cad : MethodName := ⟨RJ2, "coderFromArrayLen", "([BI)B"⟩
abbrev cJ2_compress_39247 : ByteArray := prog_34_method_17_code
def yJ2_compress_39247 : MethodName := ⟨RJ2, "compress", "([BII)[B"⟩
abbrev cJ2_compress_5af95 : ByteArray := prog_34_method_22_code
def yJ2_compress_5af95 : MethodName := ⟨RJ2, "compress", "([BI[BII)I"⟩
abbrev cJ2_fillNull_b72d1 : ByteArray := prog_34_method_70_code
def yJ2_fillNull_b72d1 : MethodName := ⟨RJ2, "fillNull", "([BII)V"⟩
abbrev cJ2_putCharSB_b72d1 : ByteArray := prog_34_method_71_code
def yJ2_putCharSB_b72d1 : MethodName := ⟨RJ2, "putCharSB", "([BII)V"⟩
abbrev cJ2_getChars_46870 : ByteArray := prog_34_method_77_code
def yJ2_getChars_46870 : MethodName := ⟨RJ2, "getChars", "(III[B)I"⟩
abbrev cJ2_putCharsAt_cd4e5 : ByteArray := prog_34_method_81_code
def yJ2_putCharsAt_cd4e5 : MethodName := ⟨RJ2, "putCharsAt", "([BICCCC)I"⟩
abbrev cJ2_charAt_3b067 : ByteArray := prog_34_method_83_code
def yJ2_charAt_3b067 : MethodName := ⟨RJ2, "charAt", "([BI)C"⟩
abbrev cJ2_inflate_0e8fd : ByteArray := prog_34_method_86_code
def yJ2_inflate_0e8fd : MethodName := ⟨RJ2, "inflate", "([BI[BII)V"⟩
abbrev cJ2_getChars_ba4f3 : ByteArray := prog_34_method_89_code
def yJ2_getChars_ba4f3 : MethodName := ⟨RJ2, "getChars", "(II[B)I"⟩
abbrev cJ2_checkIndex_2214a : ByteArray := prog_34_method_91_code
def yJ2_checkIndex_2214a : MethodName := ⟨RJ2, "checkIndex", "(I[B)V"⟩
abbrev cJ2_checkBoundsBeginEnd_d044e : ByteArray := prog_34_method_93_code
def yJ2_checkBoundsBeginEnd_d044e : MethodName := ⟨RJ2, "checkBoundsBeginEnd", "(II[B)V"⟩
abbrev cJ2_checkBoundsOffCount_d044e : ByteArray := prog_34_method_94_code
def yJ2_checkBoundsOffCount_d044e : MethodName := ⟨RJ2, "checkBoundsOffCount", "(II[B)V"⟩
def RJ10 : String := "java/lang/System"
def TJ10 : u_T := fun k => match k with
  | _ => ("", "", "", false)
def tyJ10 : Nat → FieldType := fun k => match k with
  | _ => .int
abbrev wsJ100 : List Cond := u_ws RJ10 TJ10 0
theorem nmJ10 : ∀ a, a < 0 → ∀ b, b < 0 → a ≠ b → (TJ10 a).2.1 ≠ (TJ10 b).2.1 := by decide +kernel
theorem tyJ10_ok : ∀ k, k < 0 → parseFieldDescriptor (TJ10 k).2.2.1 = some (tyJ10 k) := by decide +kernel
def RJxfd54e : String := "java/lang/constant/Constable"
def TJxfd54e : u_T := fun k => match k with
  | _ => ("", "", "", false)
def tyJxfd54e : Nat → FieldType := fun k => match k with
  | _ => .int
abbrev wsJxfd54e0 : List Cond := u_ws RJxfd54e TJxfd54e 0
theorem nmJxfd54e : ∀ a, a < 0 → ∀ b, b < 0 → a ≠ b → (TJxfd54e a).2.1 ≠ (TJxfd54e b).2.1 := by decide +kernel
theorem tyJxfd54e_ok : ∀ k, k < 0 → parseFieldDescriptor (TJxfd54e k).2.2.1 = some (tyJxfd54e k) := by decide +kernel
def RJx3cf43 : String := "java/lang/constant/ConstantDesc"
def TJx3cf43 : u_T := fun k => match k with
  | _ => ("", "", "", false)
def tyJx3cf43 : Nat → FieldType := fun k => match k with
  | _ => .int
abbrev wsJx3cf430 : List Cond := u_ws RJx3cf43 TJx3cf43 0
theorem nmJx3cf43 : ∀ a, a < 0 → ∀ b, b < 0 → a ≠ b → (TJx3cf43 a).2.1 ≠ (TJx3cf43 b).2.1 := by decide +kernel
theorem tyJx3cf43_ok : ∀ k, k < 0 → parseFieldDescriptor (TJx3cf43 k).2.2.1 = some (tyJx3cf43 k) := by decide +kernel
def RJ7 : String := "java/util/Arrays"
def TJ7 : u_T := fun k => match k with
  | _ => ("", "", "", false)
def tyJ7 : Nat → FieldType := fun k => match k with
  | _ => .int
abbrev wsJ70 : List Cond := u_ws RJ7 TJ7 0
theorem nmJ7 : ∀ a, a < 0 → ∀ b, b < 0 → a ≠ b → (TJ7 a).2.1 ≠ (TJ7 b).2.1 := by decide +kernel
theorem tyJ7_ok : ∀ k, k < 0 → parseFieldDescriptor (TJ7 k).2.2.1 = some (tyJ7 k) := by decide +kernel
abbrev cJ7_rangeCheck_23922 : ByteArray := prog_40_method_30_code
def yJ7_rangeCheck_23922 : MethodName := ⟨RJ7, "rangeCheck", "(III)V"⟩
abbrev cJ7_fill_eb02e : ByteArray := prog_40_method_110_code
def yJ7_fill_eb02e : MethodName := ⟨RJ7, "fill", "([BIIB)V"⟩
abbrev cJ7_copyOf_9075b : ByteArray := prog_40_method_121_code
def yJ7_copyOf_9075b : MethodName := ⟨RJ7, "copyOf", "([BI)[B"⟩
abbrev cJ7_checkLength_df160 : ByteArray := prog_40_method_131_code
def yJ7_checkLength_df160 : MethodName := ⟨RJ7, "checkLength", "(II)V"⟩
abbrev cJ7_copyOfRange_39247 : ByteArray := prog_40_method_132_code
def yJ7_copyOfRange_39247 : MethodName := ⟨RJ7, "copyOfRange", "([BII)[B"⟩
abbrev cJ7_copyOfRangeByte_39247 : ByteArray := prog_40_method_133_code
def yJ7_copyOfRangeByte_39247 : MethodName := ⟨RJ7, "copyOfRangeByte", "([BII)[B"⟩
def RJ8 : String := "jdk/internal/util/ArraysSupport"
def TJ8 : u_T := fun k => match k with
  | _ => ("", "", "", false)
def tyJ8 : Nat → FieldType := fun k => match k with
  | _ => .int
abbrev wsJ80 : List Cond := u_ws RJ8 TJ8 0
theorem nmJ8 : ∀ a, a < 0 → ∀ b, b < 0 → a ≠ b → (TJ8 a).2.1 ≠ (TJ8 b).2.1 := by decide +kernel
theorem tyJ8_ok : ∀ k, k < 0 → parseFieldDescriptor (TJ8 k).2.2.1 = some (tyJ8 k) := by decide +kernel
abbrev cJ8_newLength_cabcc : ByteArray := prog_42_method_27_code
def yJ8_newLength_cabcc : MethodName := ⟨RJ8, "newLength", "(III)I"⟩
abbrev cJ8_hugeLength_7cf53 : ByteArray := prog_42_method_28_code
def yJ8_hugeLength_7cf53 : MethodName := ⟨RJ8, "hugeLength", "(II)I"⟩
def RJ3 : String := "jdk/internal/util/Preconditions"
def TJ3 : u_T := fun k => match k with
  | _ => ("", "", "", false)
def tyJ3 : Nat → FieldType := fun k => match k with
  | _ => .int
abbrev wsJ30 : List Cond := u_ws RJ3 TJ3 0
theorem nmJ3 : ∀ a, a < 0 → ∀ b, b < 0 → a ≠ b → (TJ3 a).2.1 ≠ (TJ3 b).2.1 := by decide +kernel
theorem tyJ3_ok : ∀ k, k < 0 → parseFieldDescriptor (TJ3 k).2.2.1 = some (tyJ3 k) := by decide +kernel
abbrev cJ3_checkIndex_8e157 : ByteArray := prog_43_method_11_code
def yJ3_checkIndex_8e157 : MethodName := ⟨RJ3, "checkIndex", "(IILjava/util/function/BiFunction;)I"⟩
abbrev cJ3_checkFromToIndex_8c36e : ByteArray := prog_43_method_12_code
def yJ3_checkFromToIndex_8c36e : MethodName := ⟨RJ3, "checkFromToIndex", "(IIILjava/util/function/BiFunction;)I"⟩
abbrev cJ3_checkFromIndexSize_8c36e : ByteArray := prog_43_method_13_code
def yJ3_checkFromIndexSize_8c36e : MethodName := ⟨RJ3, "checkFromIndexSize", "(IIILjava/util/function/BiFunction;)I"⟩
def RL : String := "TubHireLaw"
abbrev cL_tub : ByteArray := method_3_code
def yL_tub : MethodName := ⟨RL, "tub", "(LTubHire;I[J)I"⟩
abbrev cL_tubOf : ByteArray := method_4_code
def yL_tubOf : MethodName := ⟨RL, "tubOf", "(LTubHire;II[J)I"⟩
abbrev cL_torn : ByteArray := method_5_code
def yL_torn : MethodName := ⟨RL, "torn", "(LTubHire;II[J)I"⟩
abbrev cL_tear : ByteArray := method_6_code
def yL_tear : MethodName := ⟨RL, "tear", "(LTubHire;II[J)I"⟩
abbrev cL_mend : ByteArray := method_7_code
def yL_mend : MethodName := ⟨RL, "mend", "(LTubHire;II[J)I"⟩
abbrev cL_bestTub : ByteArray := method_8_code
def yL_bestTub : MethodName := ⟨RL, "bestTub", "(LTubHire;[J)I"⟩
abbrev cL_out : ByteArray := method_9_code
def yL_out : MethodName := ⟨RL, "out", "(LTubHire;II[J)I"⟩
abbrev cL_back : ByteArray := method_10_code
def yL_back : MethodName := ⟨RL, "back", "(LTubHire;I[J)I"⟩
abbrev cL_tent : ByteArray := method_11_code
def yL_tent : MethodName := ⟨RL, "tent", "(LTubHire;I[J)I"⟩
abbrev cL_tentOf : ByteArray := method_12_code
def yL_tentOf : MethodName := ⟨RL, "tentOf", "(LTubHire;II[J)I"⟩
abbrev cL_waiting : ByteArray := method_13_code
def yL_waiting : MethodName := ⟨RL, "waiting", "(LTubHire;II[J)I"⟩
abbrev cL_join : ByteArray := method_14_code
def yL_join : MethodName := ⟨RL, "join", "(LTubHire;I[J)I"⟩
abbrev cL_heater : ByteArray := method_15_code
def yL_heater : MethodName := ⟨RL, "heater", "(LTubHire;[J)I"⟩
abbrev cL_heaterOf : ByteArray := method_16_code
def yL_heaterOf : MethodName := ⟨RL, "heaterOf", "(LTubHire;IZ[J)I"⟩
abbrev cL_heat : ByteArray := method_17_code
def yL_heat : MethodName := ⟨RL, "heat", "(LTubHire;II[J)I"⟩
abbrev cL_cold : ByteArray := method_18_code
def yL_cold : MethodName := ⟨RL, "cold", "(LTubHire;I[J)I"⟩
abbrev cL_gas : ByteArray := method_19_code
def yL_gas : MethodName := ⟨RL, "gas", "(LTubHire;II[J)I"⟩
abbrev cL_wash : ByteArray := method_20_code
def yL_wash : MethodName := ⟨RL, "wash", "(LTubHire;I[J)I"⟩
abbrev cL_soap : ByteArray := method_21_code
def yL_soap : MethodName := ⟨RL, "soap", "(LTubHire;I[J)I"⟩
abbrev cL_pass : ByteArray := method_22_code
def yL_pass : MethodName := ⟨RL, "pass", "(LTubHire;I[J)I"⟩
abbrev cL_heatsIn : ByteArray := method_23_code
def yL_heatsIn : MethodName := ⟨RL, "heatsIn", "(LTubHire;II[J)I"⟩
abbrev cL_heatsAgain : ByteArray := method_24_code
def yL_heatsAgain : MethodName := ⟨RL, "heatsAgain", "(LTubHire;II[J)I"⟩
abbrev cL_bathesIn : ByteArray := method_25_code
def yL_bathesIn : MethodName := ⟨RL, "bathesIn", "(LTubHire;I[J)I"⟩
abbrev cL_line : ByteArray := method_26_code
def yL_line : MethodName := ⟨RL, "line", "(LTubHire;I[J)I"⟩
abbrev cL_character : ByteArray := method_27_code
def yL_character : MethodName := ⟨RL, "character", "(LTubHire;I[J)I"⟩
abbrev cL_number : ByteArray := method_28_code
def yL_number : MethodName := ⟨RL, "number", "(LTubHire;I[J)I"⟩
abbrev cL_meanWarmth : ByteArray := method_29_code
def yL_meanWarmth : MethodName := ⟨RL, "meanWarmth", "(LTubHire;[D)I"⟩
abbrev cL_bathedShare : ByteArray := method_30_code
def yL_bathedShare : MethodName := ⟨RL, "bathedShare", "(LTubHire;[D)I"⟩
abbrev cL_feed : ByteArray := method_31_code
def yL_feed : MethodName := ⟨RL, "feed", "(LTubHire;C[J)I"⟩
abbrev cL_read : ByteArray := method_32_code
def yL_read : MethodName := ⟨RL, "read", "(LTubHire;[J)I"⟩
abbrev cL_faultPosition : ByteArray := method_33_code
def yL_faultPosition : MethodName := ⟨RL, "faultPosition", "(LTubHire;[J)I"⟩
abbrev cL_refusal : ByteArray := method_34_code
def yL_refusal : MethodName := ⟨RL, "refusal", "(LTubHire;Z[J)I"⟩
abbrev cL_undo : ByteArray := method_35_code
def yL_undo : MethodName := ⟨RL, "undo", "(LTubHire;[J)I"⟩
abbrev cL_restoreSnapshot : ByteArray := method_36_code
def yL_restoreSnapshot : MethodName := ⟨RL, "restoreSnapshot", "(LTubHire;[J)I"⟩
abbrev cL_law : ByteArray := code
def yL_law : MethodName := ⟨RL, "law", "([I)Z"⟩
abbrev vwCl : List vw_C := [(RJ0, TJ0, 4), (RJ4, TJ4, 4), (RJx00060, TJx00060, 6), (RJx7c733, TJx7c733, 6), (RX2, TX2, 2), (RX3, TX3, 3), (RX4, TX4, 2), (RX5, TX5, 14), (RX6, TX6, 6), (RX7, TX7, 6), (RX8, TX8, 7), (RX9, TX9, 8), (RX10, TX10, 21)]
end
section
theorem dX2_init_0 : decode cX2_init 0 = .ok (.aload_n 0, 1) := by decide +kernel
theorem dX2_init_1 : decode cX2_init 1 = .ok (.invokespecial 1, 3) := by decide +kernel
theorem dX2_init_4 : decode cX2_init 4 = .ok (.aload_n 0, 1) := by decide +kernel
theorem dX2_init_5 : decode cX2_init 5 = .ok (.bipush 20, 2) := by decide +kernel
theorem dX2_init_7 : decode cX2_init 7 = .ok (.putfield 7, 3) := by decide +kernel
theorem dX2_init_10 : decode cX2_init 10 = .ok (.aload_n 0, 1) := by decide +kernel
theorem dX2_init_11 : decode cX2_init 11 = .ok (.iconst (-1), 1) := by decide +kernel
theorem dX2_init_12 : decode cX2_init 12 = .ok (.putfield 13, 3) := by decide +kernel
theorem dX2_init_15 : decode cX2_init 15 = .ok (.return_, 1) := by decide +kernel
theorem dX2_copyFrom_0 : decode cX2_copyFrom 0 = .ok (.aload_n 0, 1) := by decide +kernel
theorem dX2_copyFrom_1 : decode cX2_copyFrom 1 = .ok (.aload_n 1, 1) := by decide +kernel
theorem dX2_copyFrom_2 : decode cX2_copyFrom 2 = .ok (.getfield 7, 3) := by decide +kernel
theorem dX2_copyFrom_5 : decode cX2_copyFrom 5 = .ok (.putfield 7, 3) := by decide +kernel
theorem dX2_copyFrom_8 : decode cX2_copyFrom 8 = .ok (.aload_n 0, 1) := by decide +kernel
theorem dX2_copyFrom_9 : decode cX2_copyFrom 9 = .ok (.aload_n 1, 1) := by decide +kernel
theorem dX2_copyFrom_10 : decode cX2_copyFrom 10 = .ok (.getfield 13, 3) := by decide +kernel
theorem dX2_copyFrom_13 : decode cX2_copyFrom 13 = .ok (.putfield 13, 3) := by decide +kernel
theorem dX2_copyFrom_16 : decode cX2_copyFrom 16 = .ok (.return_, 1) := by decide +kernel
theorem dX3_init_0 : decode cX3_init 0 = .ok (.aload_n 0, 1) := by decide +kernel
theorem dX3_init_1 : decode cX3_init 1 = .ok (.invokespecial 3, 3) := by decide +kernel
theorem dX3_init_4 : decode cX3_init 4 = .ok (.aload_n 0, 1) := by decide +kernel
theorem dX3_init_5 : decode cX3_init 5 = .ok (.bipush 9, 2) := by decide +kernel
theorem dX3_init_7 : decode cX3_init 7 = .ok (.anewarray 9, 3) := by decide +kernel
theorem dX3_init_10 : decode cX3_init 10 = .ok (.putfield 11, 3) := by decide +kernel
theorem dX3_init_13 : decode cX3_init 13 = .ok (.aload_n 0, 1) := by decide +kernel
theorem dX3_init_14 : decode cX3_init 14 = .ok (.iconst 0, 1) := by decide +kernel
theorem dX3_init_15 : decode cX3_init 15 = .ok (.putfield 15, 3) := by decide +kernel
theorem dX3_init_18 : decode cX3_init 18 = .ok (.aload_n 0, 1) := by decide +kernel
theorem dX3_init_19 : decode cX3_init 19 = .ok (.iconst 0, 1) := by decide +kernel
theorem dX3_init_20 : decode cX3_init 20 = .ok (.putfield 19, 3) := by decide +kernel
theorem dX3_init_23 : decode cX3_init 23 = .ok (.iconst 0, 1) := by decide +kernel
theorem dX3_init_24 : decode cX3_init 24 = .ok (.istore_n 1, 1) := by decide +kernel
theorem dX3_init_25 : decode cX3_init 25 = .ok (.iload_n 1, 1) := by decide +kernel
theorem dX3_init_26 : decode cX3_init 26 = .ok (.bipush 9, 2) := by decide +kernel
theorem dX3_init_28 : decode cX3_init 28 = .ok (.if_icmp .ge 22, 3) := by decide +kernel
theorem dX3_init_31 : decode cX3_init 31 = .ok (.aload_n 0, 1) := by decide +kernel
theorem dX3_init_32 : decode cX3_init 32 = .ok (.getfield 11, 3) := by decide +kernel
theorem dX3_init_35 : decode cX3_init 35 = .ok (.iload_n 1, 1) := by decide +kernel
theorem dX3_init_36 : decode cX3_init 36 = .ok (.new 9, 3) := by decide +kernel
theorem dX3_init_39 : decode cX3_init 39 = .ok (.dup, 1) := by decide +kernel
theorem dX3_init_40 : decode cX3_init 40 = .ok (.invokespecial 22, 3) := by decide +kernel
theorem dX3_init_43 : decode cX3_init 43 = .ok (.aastore, 1) := by decide +kernel
theorem dX3_init_44 : decode cX3_init 44 = .ok (.iinc 1 1, 3) := by decide +kernel
theorem dX3_init_47 : decode cX3_init 47 = .ok (.goto (-22), 3) := by decide +kernel
theorem dX3_init_50 : decode cX3_init 50 = .ok (.return_, 1) := by decide +kernel
theorem dX3_note_0 : decode cX3_note 0 = .ok (.aload_n 0, 1) := by decide +kernel
theorem dX3_note_1 : decode cX3_note 1 = .ok (.getfield 11, 3) := by decide +kernel
theorem dX3_note_4 : decode cX3_note 4 = .ok (.aload_n 0, 1) := by decide +kernel
theorem dX3_note_5 : decode cX3_note 5 = .ok (.getfield 15, 3) := by decide +kernel
theorem dX3_note_8 : decode cX3_note 8 = .ok (.bipush 9, 2) := by decide +kernel
theorem dX3_note_10 : decode cX3_note 10 = .ok (.invokestatic 23, 3) := by decide +kernel
theorem dX3_note_13 : decode cX3_note 13 = .ok (.aaload, 1) := by decide +kernel
theorem dX3_note_14 : decode cX3_note 14 = .ok (.aload_n 1, 1) := by decide +kernel
theorem dX3_note_15 : decode cX3_note 15 = .ok (.invokevirtual 29, 3) := by decide +kernel
theorem dX3_note_18 : decode cX3_note 18 = .ok (.return_, 1) := by decide +kernel
theorem dX3_giveNoted_0 : decode cX3_giveNoted 0 = .ok (.aload_n 1, 1) := by decide +kernel
theorem dX3_giveNoted_1 : decode cX3_giveNoted 1 = .ok (.aload_n 0, 1) := by decide +kernel
theorem dX3_giveNoted_2 : decode cX3_giveNoted 2 = .ok (.getfield 11, 3) := by decide +kernel
theorem dX3_giveNoted_5 : decode cX3_giveNoted 5 = .ok (.aload_n 0, 1) := by decide +kernel
theorem dX3_giveNoted_6 : decode cX3_giveNoted 6 = .ok (.getfield 15, 3) := by decide +kernel
theorem dX3_giveNoted_9 : decode cX3_giveNoted 9 = .ok (.bipush 9, 2) := by decide +kernel
theorem dX3_giveNoted_11 : decode cX3_giveNoted 11 = .ok (.invokestatic 23, 3) := by decide +kernel
theorem dX3_giveNoted_14 : decode cX3_giveNoted 14 = .ok (.aaload, 1) := by decide +kernel
theorem dX3_giveNoted_15 : decode cX3_giveNoted 15 = .ok (.invokevirtual 29, 3) := by decide +kernel
theorem dX3_giveNoted_18 : decode cX3_giveNoted 18 = .ok (.return_, 1) := by decide +kernel
theorem dX3_keep_0 : decode cX3_keep 0 = .ok (.aload_n 0, 1) := by decide +kernel
theorem dX3_keep_1 : decode cX3_keep 1 = .ok (.aload_n 0, 1) := by decide +kernel
theorem dX3_keep_2 : decode cX3_keep 2 = .ok (.getfield 15, 3) := by decide +kernel
theorem dX3_keep_5 : decode cX3_keep 5 = .ok (.iconst 1, 1) := by decide +kernel
theorem dX3_keep_6 : decode cX3_keep 6 = .ok (.iadd, 1) := by decide +kernel
theorem dX3_keep_7 : decode cX3_keep 7 = .ok (.bipush 9, 2) := by decide +kernel
theorem dX3_keep_9 : decode cX3_keep 9 = .ok (.invokestatic 23, 3) := by decide +kernel
theorem dX3_keep_12 : decode cX3_keep 12 = .ok (.putfield 15, 3) := by decide +kernel
theorem dX3_keep_15 : decode cX3_keep 15 = .ok (.aload_n 0, 1) := by decide +kernel
theorem dX3_keep_16 : decode cX3_keep 16 = .ok (.bipush 8, 2) := by decide +kernel
theorem dX3_keep_18 : decode cX3_keep 18 = .ok (.aload_n 0, 1) := by decide +kernel
theorem dX3_keep_19 : decode cX3_keep 19 = .ok (.getfield 19, 3) := by decide +kernel
theorem dX3_keep_22 : decode cX3_keep 22 = .ok (.iconst 1, 1) := by decide +kernel
theorem dX3_keep_23 : decode cX3_keep 23 = .ok (.iadd, 1) := by decide +kernel
theorem dX3_keep_24 : decode cX3_keep 24 = .ok (.invokestatic 33, 3) := by decide +kernel
theorem dX3_keep_27 : decode cX3_keep 27 = .ok (.putfield 19, 3) := by decide +kernel
theorem dX3_keep_30 : decode cX3_keep 30 = .ok (.return_, 1) := by decide +kernel
theorem dX3_giveLatest_0 : decode cX3_giveLatest 0 = .ok (.aload_n 0, 1) := by decide +kernel
theorem dX3_giveLatest_1 : decode cX3_giveLatest 1 = .ok (.aload_n 0, 1) := by decide +kernel
theorem dX3_giveLatest_2 : decode cX3_giveLatest 2 = .ok (.getfield 15, 3) := by decide +kernel
theorem dX3_giveLatest_5 : decode cX3_giveLatest 5 = .ok (.iconst 1, 1) := by decide +kernel
theorem dX3_giveLatest_6 : decode cX3_giveLatest 6 = .ok (.isub, 1) := by decide +kernel
theorem dX3_giveLatest_7 : decode cX3_giveLatest 7 = .ok (.bipush 9, 2) := by decide +kernel
theorem dX3_giveLatest_9 : decode cX3_giveLatest 9 = .ok (.invokestatic 23, 3) := by decide +kernel
theorem dX3_giveLatest_12 : decode cX3_giveLatest 12 = .ok (.putfield 15, 3) := by decide +kernel
theorem dX3_giveLatest_15 : decode cX3_giveLatest 15 = .ok (.aload_n 0, 1) := by decide +kernel
theorem dX3_giveLatest_16 : decode cX3_giveLatest 16 = .ok (.dup, 1) := by decide +kernel
theorem dX3_giveLatest_17 : decode cX3_giveLatest 17 = .ok (.getfield 19, 3) := by decide +kernel
theorem dX3_giveLatest_20 : decode cX3_giveLatest 20 = .ok (.iconst 1, 1) := by decide +kernel
theorem dX3_giveLatest_21 : decode cX3_giveLatest 21 = .ok (.isub, 1) := by decide +kernel
theorem dX3_giveLatest_22 : decode cX3_giveLatest 22 = .ok (.putfield 19, 3) := by decide +kernel
theorem dX3_giveLatest_25 : decode cX3_giveLatest 25 = .ok (.aload_n 0, 1) := by decide +kernel
theorem dX3_giveLatest_26 : decode cX3_giveLatest 26 = .ok (.aload_n 1, 1) := by decide +kernel
theorem dX3_giveLatest_27 : decode cX3_giveLatest 27 = .ok (.invokevirtual 36, 3) := by decide +kernel
theorem dX3_giveLatest_30 : decode cX3_giveLatest 30 = .ok (.return_, 1) := by decide +kernel
theorem dX4_init_0 : decode cX4_init 0 = .ok (.aload_n 0, 1) := by decide +kernel
theorem dX4_init_1 : decode cX4_init 1 = .ok (.invokespecial 1, 3) := by decide +kernel
theorem dX4_init_4 : decode cX4_init 4 = .ok (.aload_n 0, 1) := by decide +kernel
theorem dX4_init_5 : decode cX4_init 5 = .ok (.iconst 0, 1) := by decide +kernel
theorem dX4_init_6 : decode cX4_init 6 = .ok (.putfield 7, 3) := by decide +kernel
theorem dX4_init_9 : decode cX4_init 9 = .ok (.aload_n 0, 1) := by decide +kernel
theorem dX4_init_10 : decode cX4_init 10 = .ok (.iconst 0, 1) := by decide +kernel
theorem dX4_init_11 : decode cX4_init 11 = .ok (.putfield 13, 3) := by decide +kernel
theorem dX4_init_14 : decode cX4_init 14 = .ok (.return_, 1) := by decide +kernel
theorem dX4_keep_0 : decode cX4_keep 0 = .ok (.aload_n 0, 1) := by decide +kernel
theorem dX4_keep_1 : decode cX4_keep 1 = .ok (.iload_n 1, 1) := by decide +kernel
theorem dX4_keep_2 : decode cX4_keep 2 = .ok (.putfield 7, 3) := by decide +kernel
theorem dX4_keep_5 : decode cX4_keep 5 = .ok (.aload_n 0, 1) := by decide +kernel
theorem dX4_keep_6 : decode cX4_keep 6 = .ok (.iload_n 2, 1) := by decide +kernel
theorem dX4_keep_7 : decode cX4_keep 7 = .ok (.putfield 13, 3) := by decide +kernel
theorem dX4_keep_10 : decode cX4_keep 10 = .ok (.iconst (-1), 1) := by decide +kernel
theorem dX4_keep_11 : decode cX4_keep 11 = .ok (.ireturn, 1) := by decide +kernel
theorem dX5_init_0 : decode cX5_init 0 = .ok (.aload_n 0, 1) := by decide +kernel
theorem dX5_init_1 : decode cX5_init 1 = .ok (.invokespecial 1, 3) := by decide +kernel
theorem dX5_init_4 : decode cX5_init 4 = .ok (.aload_n 0, 1) := by decide +kernel
theorem dX5_init_5 : decode cX5_init 5 = .ok (.new 7, 3) := by decide +kernel
theorem dX5_init_8 : decode cX5_init 8 = .ok (.dup, 1) := by decide +kernel
theorem dX5_init_9 : decode cX5_init 9 = .ok (.invokespecial 9, 3) := by decide +kernel
theorem dX5_init_12 : decode cX5_init 12 = .ok (.putfield 10, 3) := by decide +kernel
theorem dX5_init_15 : decode cX5_init 15 = .ok (.aload_n 0, 1) := by decide +kernel
theorem dX5_init_16 : decode cX5_init 16 = .ok (.bipush 8, 2) := by decide +kernel
theorem dX5_init_18 : decode cX5_init 18 = .ok (.anewarray 16, 3) := by decide +kernel
theorem dX5_init_21 : decode cX5_init 21 = .ok (.putfield 18, 3) := by decide +kernel
theorem dX5_init_24 : decode cX5_init 24 = .ok (.aload_n 0, 1) := by decide +kernel
theorem dX5_init_25 : decode cX5_init 25 = .ok (.iconst 5, 1) := by decide +kernel
theorem dX5_init_26 : decode cX5_init 26 = .ok (.anewarray 22, 3) := by decide +kernel
theorem dX5_init_29 : decode cX5_init 29 = .ok (.putfield 24, 3) := by decide +kernel
theorem dX5_init_32 : decode cX5_init 32 = .ok (.aload_n 0, 1) := by decide +kernel
theorem dX5_init_33 : decode cX5_init 33 = .ok (.iconst 4, 1) := by decide +kernel
theorem dX5_init_34 : decode cX5_init 34 = .ok (.anewarray 28, 3) := by decide +kernel
theorem dX5_init_37 : decode cX5_init 37 = .ok (.putfield 30, 3) := by decide +kernel
theorem dX5_init_40 : decode cX5_init 40 = .ok (.aload_n 0, 1) := by decide +kernel
theorem dX5_init_41 : decode cX5_init 41 = .ok (.iconst 0, 1) := by decide +kernel
theorem dX5_init_42 : decode cX5_init 42 = .ok (.putfield 34, 3) := by decide +kernel
theorem dX5_init_45 : decode cX5_init 45 = .ok (.aload_n 0, 1) := by decide +kernel
theorem dX5_init_46 : decode cX5_init 46 = .ok (.iconst 0, 1) := by decide +kernel
theorem dX5_init_47 : decode cX5_init 47 = .ok (.putfield 38, 3) := by decide +kernel
theorem dX5_init_50 : decode cX5_init 50 = .ok (.aload_n 0, 1) := by decide +kernel
theorem dX5_init_51 : decode cX5_init 51 = .ok (.iconst 0, 1) := by decide +kernel
theorem dX5_init_52 : decode cX5_init 52 = .ok (.putfield 41, 3) := by decide +kernel
theorem dX5_init_55 : decode cX5_init 55 = .ok (.aload_n 0, 1) := by decide +kernel
theorem dX5_init_56 : decode cX5_init 56 = .ok (.iconst 0, 1) := by decide +kernel
theorem dX5_init_57 : decode cX5_init 57 = .ok (.putfield 44, 3) := by decide +kernel
theorem dX5_init_60 : decode cX5_init 60 = .ok (.aload_n 0, 1) := by decide +kernel
theorem dX5_init_61 : decode cX5_init 61 = .ok (.bipush 12, 2) := by decide +kernel
theorem dX5_init_63 : decode cX5_init 63 = .ok (.putfield 47, 3) := by decide +kernel
theorem dX5_init_66 : decode cX5_init 66 = .ok (.aload_n 0, 1) := by decide +kernel
theorem dX5_init_67 : decode cX5_init 67 = .ok (.iconst 0, 1) := by decide +kernel
theorem dX5_init_68 : decode cX5_init 68 = .ok (.putfield 50, 3) := by decide +kernel
theorem dX5_init_71 : decode cX5_init 71 = .ok (.aload_n 0, 1) := by decide +kernel
theorem dX5_init_72 : decode cX5_init 72 = .ok (.iconst 0, 1) := by decide +kernel
theorem dX5_init_73 : decode cX5_init 73 = .ok (.putfield 53, 3) := by decide +kernel
theorem dX5_init_76 : decode cX5_init 76 = .ok (.aload_n 0, 1) := by decide +kernel
theorem dX5_init_77 : decode cX5_init 77 = .ok (.iconst 0, 1) := by decide +kernel
theorem dX5_init_78 : decode cX5_init 78 = .ok (.putfield 56, 3) := by decide +kernel
theorem dX5_init_81 : decode cX5_init 81 = .ok (.aload_n 0, 1) := by decide +kernel
theorem dX5_init_82 : decode cX5_init 82 = .ok (.bipush 10, 2) := by decide +kernel
theorem dX5_init_84 : decode cX5_init 84 = .ok (.putfield 59, 3) := by decide +kernel
theorem dX5_init_87 : decode cX5_init 87 = .ok (.aload_n 0, 1) := by decide +kernel
theorem dX5_init_88 : decode cX5_init 88 = .ok (.bipush 10, 2) := by decide +kernel
theorem dX5_init_90 : decode cX5_init 90 = .ok (.putfield 62, 3) := by decide +kernel
theorem dX5_init_93 : decode cX5_init 93 = .ok (.iconst 0, 1) := by decide +kernel
theorem dX5_init_94 : decode cX5_init 94 = .ok (.istore_n 1, 1) := by decide +kernel
theorem dX5_init_95 : decode cX5_init 95 = .ok (.iload_n 1, 1) := by decide +kernel
theorem dX5_init_96 : decode cX5_init 96 = .ok (.bipush 8, 2) := by decide +kernel
theorem dX5_init_98 : decode cX5_init 98 = .ok (.if_icmp .ge 22, 3) := by decide +kernel
theorem dX5_init_101 : decode cX5_init 101 = .ok (.aload_n 0, 1) := by decide +kernel
theorem dX5_init_102 : decode cX5_init 102 = .ok (.getfield 18, 3) := by decide +kernel
theorem dX5_init_105 : decode cX5_init 105 = .ok (.iload_n 1, 1) := by decide +kernel
theorem dX5_init_106 : decode cX5_init 106 = .ok (.new 16, 3) := by decide +kernel
theorem dX5_init_109 : decode cX5_init 109 = .ok (.dup, 1) := by decide +kernel
theorem dX5_init_110 : decode cX5_init 110 = .ok (.invokespecial 65, 3) := by decide +kernel
theorem dX5_init_113 : decode cX5_init 113 = .ok (.aastore, 1) := by decide +kernel
theorem dX5_init_114 : decode cX5_init 114 = .ok (.iinc 1 1, 3) := by decide +kernel
theorem dX5_init_117 : decode cX5_init 117 = .ok (.goto (-22), 3) := by decide +kernel
theorem dX5_init_120 : decode cX5_init 120 = .ok (.iconst 0, 1) := by decide +kernel
theorem dX5_init_121 : decode cX5_init 121 = .ok (.istore_n 1, 1) := by decide +kernel
theorem dX5_init_122 : decode cX5_init 122 = .ok (.iload_n 1, 1) := by decide +kernel
theorem dX5_init_123 : decode cX5_init 123 = .ok (.iconst 5, 1) := by decide +kernel
theorem dX5_init_124 : decode cX5_init 124 = .ok (.if_icmp .ge 22, 3) := by decide +kernel
theorem dX5_init_127 : decode cX5_init 127 = .ok (.aload_n 0, 1) := by decide +kernel
theorem dX5_init_128 : decode cX5_init 128 = .ok (.getfield 24, 3) := by decide +kernel
theorem dX5_init_131 : decode cX5_init 131 = .ok (.iload_n 1, 1) := by decide +kernel
theorem dX5_init_132 : decode cX5_init 132 = .ok (.new 22, 3) := by decide +kernel
theorem dX5_init_135 : decode cX5_init 135 = .ok (.dup, 1) := by decide +kernel
theorem dX5_init_136 : decode cX5_init 136 = .ok (.invokespecial 66, 3) := by decide +kernel
theorem dX5_init_139 : decode cX5_init 139 = .ok (.aastore, 1) := by decide +kernel
theorem dX5_init_140 : decode cX5_init 140 = .ok (.iinc 1 1, 3) := by decide +kernel
theorem dX5_init_143 : decode cX5_init 143 = .ok (.goto (-21), 3) := by decide +kernel
theorem dX5_init_146 : decode cX5_init 146 = .ok (.iconst 0, 1) := by decide +kernel
theorem dX5_init_147 : decode cX5_init 147 = .ok (.istore_n 1, 1) := by decide +kernel
theorem dX5_init_148 : decode cX5_init 148 = .ok (.iload_n 1, 1) := by decide +kernel
theorem dX5_init_149 : decode cX5_init 149 = .ok (.iconst 4, 1) := by decide +kernel
theorem dX5_init_150 : decode cX5_init 150 = .ok (.if_icmp .ge 22, 3) := by decide +kernel
theorem dX5_init_153 : decode cX5_init 153 = .ok (.aload_n 0, 1) := by decide +kernel
theorem dX5_init_154 : decode cX5_init 154 = .ok (.getfield 30, 3) := by decide +kernel
theorem dX5_init_157 : decode cX5_init 157 = .ok (.iload_n 1, 1) := by decide +kernel
theorem dX5_init_158 : decode cX5_init 158 = .ok (.new 28, 3) := by decide +kernel
theorem dX5_init_161 : decode cX5_init 161 = .ok (.dup, 1) := by decide +kernel
theorem dX5_init_162 : decode cX5_init 162 = .ok (.invokespecial 67, 3) := by decide +kernel
theorem dX5_init_165 : decode cX5_init 165 = .ok (.aastore, 1) := by decide +kernel
theorem dX5_init_166 : decode cX5_init 166 = .ok (.iinc 1 1, 3) := by decide +kernel
theorem dX5_init_169 : decode cX5_init 169 = .ok (.goto (-21), 3) := by decide +kernel
theorem dX5_init_172 : decode cX5_init 172 = .ok (.return_, 1) := by decide +kernel
theorem dX5_copyFrom_0 : decode cX5_copyFrom 0 = .ok (.iconst 0, 1) := by decide +kernel
theorem dX5_copyFrom_1 : decode cX5_copyFrom 1 = .ok (.istore_n 2, 1) := by decide +kernel
theorem dX5_copyFrom_2 : decode cX5_copyFrom 2 = .ok (.iload_n 2, 1) := by decide +kernel
theorem dX5_copyFrom_3 : decode cX5_copyFrom 3 = .ok (.bipush 8, 2) := by decide +kernel
theorem dX5_copyFrom_5 : decode cX5_copyFrom 5 = .ok (.if_icmp .ge 24, 3) := by decide +kernel
theorem dX5_copyFrom_8 : decode cX5_copyFrom 8 = .ok (.aload_n 0, 1) := by decide +kernel
theorem dX5_copyFrom_9 : decode cX5_copyFrom 9 = .ok (.getfield 18, 3) := by decide +kernel
theorem dX5_copyFrom_12 : decode cX5_copyFrom 12 = .ok (.iload_n 2, 1) := by decide +kernel
theorem dX5_copyFrom_13 : decode cX5_copyFrom 13 = .ok (.aaload, 1) := by decide +kernel
theorem dX5_copyFrom_14 : decode cX5_copyFrom 14 = .ok (.aload_n 1, 1) := by decide +kernel
theorem dX5_copyFrom_15 : decode cX5_copyFrom 15 = .ok (.getfield 18, 3) := by decide +kernel
theorem dX5_copyFrom_18 : decode cX5_copyFrom 18 = .ok (.iload_n 2, 1) := by decide +kernel
theorem dX5_copyFrom_19 : decode cX5_copyFrom 19 = .ok (.aaload, 1) := by decide +kernel
theorem dX5_copyFrom_20 : decode cX5_copyFrom 20 = .ok (.invokevirtual 68, 3) := by decide +kernel
theorem dX5_copyFrom_23 : decode cX5_copyFrom 23 = .ok (.iinc 2 1, 3) := by decide +kernel
theorem dX5_copyFrom_26 : decode cX5_copyFrom 26 = .ok (.goto (-24), 3) := by decide +kernel
theorem dX5_copyFrom_29 : decode cX5_copyFrom 29 = .ok (.iconst 0, 1) := by decide +kernel
theorem dX5_copyFrom_30 : decode cX5_copyFrom 30 = .ok (.istore_n 2, 1) := by decide +kernel
theorem dX5_copyFrom_31 : decode cX5_copyFrom 31 = .ok (.iload_n 2, 1) := by decide +kernel
theorem dX5_copyFrom_32 : decode cX5_copyFrom 32 = .ok (.iconst 5, 1) := by decide +kernel
theorem dX5_copyFrom_33 : decode cX5_copyFrom 33 = .ok (.if_icmp .ge 24, 3) := by decide +kernel
theorem dX5_copyFrom_36 : decode cX5_copyFrom 36 = .ok (.aload_n 0, 1) := by decide +kernel
theorem dX5_copyFrom_37 : decode cX5_copyFrom 37 = .ok (.getfield 24, 3) := by decide +kernel
theorem dX5_copyFrom_40 : decode cX5_copyFrom 40 = .ok (.iload_n 2, 1) := by decide +kernel
theorem dX5_copyFrom_41 : decode cX5_copyFrom 41 = .ok (.aaload, 1) := by decide +kernel
theorem dX5_copyFrom_42 : decode cX5_copyFrom 42 = .ok (.aload_n 1, 1) := by decide +kernel
theorem dX5_copyFrom_43 : decode cX5_copyFrom 43 = .ok (.getfield 24, 3) := by decide +kernel
theorem dX5_copyFrom_46 : decode cX5_copyFrom 46 = .ok (.iload_n 2, 1) := by decide +kernel
theorem dX5_copyFrom_47 : decode cX5_copyFrom 47 = .ok (.aaload, 1) := by decide +kernel
theorem dX5_copyFrom_48 : decode cX5_copyFrom 48 = .ok (.invokevirtual 72, 3) := by decide +kernel
theorem dX5_copyFrom_51 : decode cX5_copyFrom 51 = .ok (.iinc 2 1, 3) := by decide +kernel
theorem dX5_copyFrom_54 : decode cX5_copyFrom 54 = .ok (.goto (-23), 3) := by decide +kernel
theorem dX5_copyFrom_57 : decode cX5_copyFrom 57 = .ok (.iconst 0, 1) := by decide +kernel
theorem dX5_copyFrom_58 : decode cX5_copyFrom 58 = .ok (.istore_n 2, 1) := by decide +kernel
theorem dX5_copyFrom_59 : decode cX5_copyFrom 59 = .ok (.iload_n 2, 1) := by decide +kernel
theorem dX5_copyFrom_60 : decode cX5_copyFrom 60 = .ok (.iconst 4, 1) := by decide +kernel
theorem dX5_copyFrom_61 : decode cX5_copyFrom 61 = .ok (.if_icmp .ge 24, 3) := by decide +kernel
theorem dX5_copyFrom_64 : decode cX5_copyFrom 64 = .ok (.aload_n 0, 1) := by decide +kernel
theorem dX5_copyFrom_65 : decode cX5_copyFrom 65 = .ok (.getfield 30, 3) := by decide +kernel
theorem dX5_copyFrom_68 : decode cX5_copyFrom 68 = .ok (.iload_n 2, 1) := by decide +kernel
theorem dX5_copyFrom_69 : decode cX5_copyFrom 69 = .ok (.aaload, 1) := by decide +kernel
theorem dX5_copyFrom_70 : decode cX5_copyFrom 70 = .ok (.aload_n 1, 1) := by decide +kernel
theorem dX5_copyFrom_71 : decode cX5_copyFrom 71 = .ok (.getfield 30, 3) := by decide +kernel
theorem dX5_copyFrom_74 : decode cX5_copyFrom 74 = .ok (.iload_n 2, 1) := by decide +kernel
theorem dX5_copyFrom_75 : decode cX5_copyFrom 75 = .ok (.aaload, 1) := by decide +kernel
theorem dX5_copyFrom_76 : decode cX5_copyFrom 76 = .ok (.invokevirtual 75, 3) := by decide +kernel
theorem dX5_copyFrom_79 : decode cX5_copyFrom 79 = .ok (.iinc 2 1, 3) := by decide +kernel
theorem dX5_copyFrom_82 : decode cX5_copyFrom 82 = .ok (.goto (-23), 3) := by decide +kernel
theorem dX5_copyFrom_85 : decode cX5_copyFrom 85 = .ok (.aload_n 0, 1) := by decide +kernel
theorem dX5_copyFrom_86 : decode cX5_copyFrom 86 = .ok (.aload_n 1, 1) := by decide +kernel
theorem dX5_copyFrom_87 : decode cX5_copyFrom 87 = .ok (.getfield 34, 3) := by decide +kernel
theorem dX5_copyFrom_90 : decode cX5_copyFrom 90 = .ok (.putfield 34, 3) := by decide +kernel
theorem dX5_copyFrom_93 : decode cX5_copyFrom 93 = .ok (.aload_n 0, 1) := by decide +kernel
theorem dX5_copyFrom_94 : decode cX5_copyFrom 94 = .ok (.aload_n 1, 1) := by decide +kernel
theorem dX5_copyFrom_95 : decode cX5_copyFrom 95 = .ok (.getfield 38, 3) := by decide +kernel
theorem dX5_copyFrom_98 : decode cX5_copyFrom 98 = .ok (.putfield 38, 3) := by decide +kernel
theorem dX5_copyFrom_101 : decode cX5_copyFrom 101 = .ok (.aload_n 0, 1) := by decide +kernel
theorem dX5_copyFrom_102 : decode cX5_copyFrom 102 = .ok (.aload_n 1, 1) := by decide +kernel
theorem dX5_copyFrom_103 : decode cX5_copyFrom 103 = .ok (.getfield 41, 3) := by decide +kernel
theorem dX5_copyFrom_106 : decode cX5_copyFrom 106 = .ok (.putfield 41, 3) := by decide +kernel
theorem dX5_copyFrom_109 : decode cX5_copyFrom 109 = .ok (.aload_n 0, 1) := by decide +kernel
theorem dX5_copyFrom_110 : decode cX5_copyFrom 110 = .ok (.aload_n 1, 1) := by decide +kernel
theorem dX5_copyFrom_111 : decode cX5_copyFrom 111 = .ok (.getfield 44, 3) := by decide +kernel
theorem dX5_copyFrom_114 : decode cX5_copyFrom 114 = .ok (.putfield 44, 3) := by decide +kernel
theorem dX5_copyFrom_117 : decode cX5_copyFrom 117 = .ok (.aload_n 0, 1) := by decide +kernel
theorem dX5_copyFrom_118 : decode cX5_copyFrom 118 = .ok (.aload_n 1, 1) := by decide +kernel
theorem dX5_copyFrom_119 : decode cX5_copyFrom 119 = .ok (.getfield 47, 3) := by decide +kernel
theorem dX5_copyFrom_122 : decode cX5_copyFrom 122 = .ok (.putfield 47, 3) := by decide +kernel
theorem dX5_copyFrom_125 : decode cX5_copyFrom 125 = .ok (.aload_n 0, 1) := by decide +kernel
theorem dX5_copyFrom_126 : decode cX5_copyFrom 126 = .ok (.aload_n 1, 1) := by decide +kernel
theorem dX5_copyFrom_127 : decode cX5_copyFrom 127 = .ok (.getfield 50, 3) := by decide +kernel
theorem dX5_copyFrom_130 : decode cX5_copyFrom 130 = .ok (.putfield 50, 3) := by decide +kernel
theorem dX5_copyFrom_133 : decode cX5_copyFrom 133 = .ok (.aload_n 0, 1) := by decide +kernel
theorem dX5_copyFrom_134 : decode cX5_copyFrom 134 = .ok (.aload_n 1, 1) := by decide +kernel
theorem dX5_copyFrom_135 : decode cX5_copyFrom 135 = .ok (.getfield 53, 3) := by decide +kernel
theorem dX5_copyFrom_138 : decode cX5_copyFrom 138 = .ok (.putfield 53, 3) := by decide +kernel
theorem dX5_copyFrom_141 : decode cX5_copyFrom 141 = .ok (.aload_n 0, 1) := by decide +kernel
theorem dX5_copyFrom_142 : decode cX5_copyFrom 142 = .ok (.aload_n 1, 1) := by decide +kernel
theorem dX5_copyFrom_143 : decode cX5_copyFrom 143 = .ok (.getfield 56, 3) := by decide +kernel
theorem dX5_copyFrom_146 : decode cX5_copyFrom 146 = .ok (.putfield 56, 3) := by decide +kernel
theorem dX5_copyFrom_149 : decode cX5_copyFrom 149 = .ok (.aload_n 0, 1) := by decide +kernel
theorem dX5_copyFrom_150 : decode cX5_copyFrom 150 = .ok (.aload_n 1, 1) := by decide +kernel
theorem dX5_copyFrom_151 : decode cX5_copyFrom 151 = .ok (.getfield 59, 3) := by decide +kernel
theorem dX5_copyFrom_154 : decode cX5_copyFrom 154 = .ok (.putfield 59, 3) := by decide +kernel
theorem dX5_copyFrom_157 : decode cX5_copyFrom 157 = .ok (.aload_n 0, 1) := by decide +kernel
theorem dX5_copyFrom_158 : decode cX5_copyFrom 158 = .ok (.aload_n 1, 1) := by decide +kernel
theorem dX5_copyFrom_159 : decode cX5_copyFrom 159 = .ok (.getfield 62, 3) := by decide +kernel
theorem dX5_copyFrom_162 : decode cX5_copyFrom 162 = .ok (.putfield 62, 3) := by decide +kernel
theorem dX5_copyFrom_165 : decode cX5_copyFrom 165 = .ok (.return_, 1) := by decide +kernel
theorem dX5_tubAt_0 : decode cX5_tubAt 0 = .ok (.iload_n 1, 1) := by decide +kernel
theorem dX5_tubAt_1 : decode cX5_tubAt 1 = .ok (.ifCond .lt 26, 3) := by decide +kernel
theorem dX5_tubAt_4 : decode cX5_tubAt 4 = .ok (.iload_n 1, 1) := by decide +kernel
theorem dX5_tubAt_5 : decode cX5_tubAt 5 = .ok (.aload_n 0, 1) := by decide +kernel
theorem dX5_tubAt_6 : decode cX5_tubAt 6 = .ok (.getfield 34, 3) := by decide +kernel
theorem dX5_tubAt_9 : decode cX5_tubAt 9 = .ok (.if_icmp .ge 18, 3) := by decide +kernel
theorem dX5_tubAt_12 : decode cX5_tubAt 12 = .ok (.iload_n 1, 1) := by decide +kernel
theorem dX5_tubAt_13 : decode cX5_tubAt 13 = .ok (.bipush 8, 2) := by decide +kernel
theorem dX5_tubAt_15 : decode cX5_tubAt 15 = .ok (.if_icmp .ge 12, 3) := by decide +kernel
theorem dX5_tubAt_18 : decode cX5_tubAt 18 = .ok (.aload_n 0, 1) := by decide +kernel
theorem dX5_tubAt_19 : decode cX5_tubAt 19 = .ok (.getfield 18, 3) := by decide +kernel
theorem dX5_tubAt_22 : decode cX5_tubAt 22 = .ok (.iload_n 1, 1) := by decide +kernel
theorem dX5_tubAt_23 : decode cX5_tubAt 23 = .ok (.aaload, 1) := by decide +kernel
theorem dX5_tubAt_24 : decode cX5_tubAt 24 = .ok (.goto 4, 3) := by decide +kernel
theorem dX5_tubAt_27 : decode cX5_tubAt 27 = .ok (.aconst_null, 1) := by decide +kernel
theorem dX5_tubAt_28 : decode cX5_tubAt 28 = .ok (.areturn, 1) := by decide +kernel
theorem dX5_tentAt_0 : decode cX5_tentAt 0 = .ok (.iload_n 1, 1) := by decide +kernel
theorem dX5_tentAt_1 : decode cX5_tentAt 1 = .ok (.ifCond .lt 25, 3) := by decide +kernel
theorem dX5_tentAt_4 : decode cX5_tentAt 4 = .ok (.iload_n 1, 1) := by decide +kernel
theorem dX5_tentAt_5 : decode cX5_tentAt 5 = .ok (.aload_n 0, 1) := by decide +kernel
theorem dX5_tentAt_6 : decode cX5_tentAt 6 = .ok (.getfield 38, 3) := by decide +kernel
theorem dX5_tentAt_9 : decode cX5_tentAt 9 = .ok (.if_icmp .ge 17, 3) := by decide +kernel
theorem dX5_tentAt_12 : decode cX5_tentAt 12 = .ok (.iload_n 1, 1) := by decide +kernel
theorem dX5_tentAt_13 : decode cX5_tentAt 13 = .ok (.iconst 5, 1) := by decide +kernel
theorem dX5_tentAt_14 : decode cX5_tentAt 14 = .ok (.if_icmp .ge 12, 3) := by decide +kernel
theorem dX5_tentAt_17 : decode cX5_tentAt 17 = .ok (.aload_n 0, 1) := by decide +kernel
theorem dX5_tentAt_18 : decode cX5_tentAt 18 = .ok (.getfield 24, 3) := by decide +kernel
theorem dX5_tentAt_21 : decode cX5_tentAt 21 = .ok (.iload_n 1, 1) := by decide +kernel
theorem dX5_tentAt_22 : decode cX5_tentAt 22 = .ok (.aaload, 1) := by decide +kernel
theorem dX5_tentAt_23 : decode cX5_tentAt 23 = .ok (.goto 4, 3) := by decide +kernel
theorem dX5_tentAt_26 : decode cX5_tentAt 26 = .ok (.aconst_null, 1) := by decide +kernel
theorem dX5_tentAt_27 : decode cX5_tentAt 27 = .ok (.areturn, 1) := by decide +kernel
theorem dX5_heaterAt_0 : decode cX5_heaterAt 0 = .ok (.iload_n 1, 1) := by decide +kernel
theorem dX5_heaterAt_1 : decode cX5_heaterAt 1 = .ok (.ifCond .lt 25, 3) := by decide +kernel
theorem dX5_heaterAt_4 : decode cX5_heaterAt 4 = .ok (.iload_n 1, 1) := by decide +kernel
theorem dX5_heaterAt_5 : decode cX5_heaterAt 5 = .ok (.aload_n 0, 1) := by decide +kernel
theorem dX5_heaterAt_6 : decode cX5_heaterAt 6 = .ok (.getfield 41, 3) := by decide +kernel
theorem dX5_heaterAt_9 : decode cX5_heaterAt 9 = .ok (.if_icmp .ge 17, 3) := by decide +kernel
theorem dX5_heaterAt_12 : decode cX5_heaterAt 12 = .ok (.iload_n 1, 1) := by decide +kernel
theorem dX5_heaterAt_13 : decode cX5_heaterAt 13 = .ok (.iconst 4, 1) := by decide +kernel
theorem dX5_heaterAt_14 : decode cX5_heaterAt 14 = .ok (.if_icmp .ge 12, 3) := by decide +kernel
theorem dX5_heaterAt_17 : decode cX5_heaterAt 17 = .ok (.aload_n 0, 1) := by decide +kernel
theorem dX5_heaterAt_18 : decode cX5_heaterAt 18 = .ok (.getfield 30, 3) := by decide +kernel
theorem dX5_heaterAt_21 : decode cX5_heaterAt 21 = .ok (.iload_n 1, 1) := by decide +kernel
theorem dX5_heaterAt_22 : decode cX5_heaterAt 22 = .ok (.aaload, 1) := by decide +kernel
theorem dX5_heaterAt_23 : decode cX5_heaterAt 23 = .ok (.goto 4, 3) := by decide +kernel
theorem dX5_heaterAt_26 : decode cX5_heaterAt 26 = .ok (.aconst_null, 1) := by decide +kernel
theorem dX5_heaterAt_27 : decode cX5_heaterAt 27 = .ok (.areturn, 1) := by decide +kernel
theorem dX5_addTub_0 : decode cX5_addTub 0 = .ok (.iload_n 1, 1) := by decide +kernel
theorem dX5_addTub_1 : decode cX5_addTub 1 = .ok (.invokestatic 78, 3) := by decide +kernel
theorem dX5_addTub_4 : decode cX5_addTub 4 = .ok (.ifCond .ne 6, 3) := by decide +kernel
theorem dX5_addTub_7 : decode cX5_addTub 7 = .ok (.bipush (-3), 2) := by decide +kernel
theorem dX5_addTub_9 : decode cX5_addTub 9 = .ok (.ireturn, 1) := by decide +kernel
theorem dX5_addTub_10 : decode cX5_addTub 10 = .ok (.aload_n 0, 1) := by decide +kernel
theorem dX5_addTub_11 : decode cX5_addTub 11 = .ok (.getfield 34, 3) := by decide +kernel
theorem dX5_addTub_14 : decode cX5_addTub 14 = .ok (.ifCond .lt 12, 3) := by decide +kernel
theorem dX5_addTub_17 : decode cX5_addTub 17 = .ok (.aload_n 0, 1) := by decide +kernel
theorem dX5_addTub_18 : decode cX5_addTub 18 = .ok (.getfield 34, 3) := by decide +kernel
theorem dX5_addTub_21 : decode cX5_addTub 21 = .ok (.bipush 8, 2) := by decide +kernel
theorem dX5_addTub_23 : decode cX5_addTub 23 = .ok (.if_icmp .lt 14, 3) := by decide +kernel
theorem dX5_addTub_26 : decode cX5_addTub 26 = .ok (.aload_n 0, 1) := by decide +kernel
theorem dX5_addTub_27 : decode cX5_addTub 27 = .ok (.getfield 10, 3) := by decide +kernel
theorem dX5_addTub_30 : decode cX5_addTub 30 = .ok (.iconst 1, 1) := by decide +kernel
theorem dX5_addTub_31 : decode cX5_addTub 31 = .ok (.bipush 8, 2) := by decide +kernel
theorem dX5_addTub_33 : decode cX5_addTub 33 = .ok (.invokevirtual 82, 3) := by decide +kernel
theorem dX5_addTub_36 : decode cX5_addTub 36 = .ok (.ireturn, 1) := by decide +kernel
theorem dX5_addTub_37 : decode cX5_addTub 37 = .ok (.aload_n 0, 1) := by decide +kernel
theorem dX5_addTub_38 : decode cX5_addTub 38 = .ok (.getfield 18, 3) := by decide +kernel
theorem dX5_addTub_41 : decode cX5_addTub 41 = .ok (.aload_n 0, 1) := by decide +kernel
theorem dX5_addTub_42 : decode cX5_addTub 42 = .ok (.getfield 34, 3) := by decide +kernel
theorem dX5_addTub_45 : decode cX5_addTub 45 = .ok (.aaload, 1) := by decide +kernel
theorem dX5_addTub_46 : decode cX5_addTub 46 = .ok (.iload_n 1, 1) := by decide +kernel
theorem dX5_addTub_47 : decode cX5_addTub 47 = .ok (.putfield 86, 3) := by decide +kernel
theorem dX5_addTub_50 : decode cX5_addTub 50 = .ok (.aload_n 0, 1) := by decide +kernel
theorem dX5_addTub_51 : decode cX5_addTub 51 = .ok (.dup, 1) := by decide +kernel
theorem dX5_addTub_52 : decode cX5_addTub 52 = .ok (.getfield 34, 3) := by decide +kernel
theorem dX5_addTub_55 : decode cX5_addTub 55 = .ok (.dup_x1, 1) := by decide +kernel
theorem dX5_addTub_56 : decode cX5_addTub 56 = .ok (.iconst 1, 1) := by decide +kernel
theorem dX5_addTub_57 : decode cX5_addTub 57 = .ok (.iadd, 1) := by decide +kernel
theorem dX5_addTub_58 : decode cX5_addTub 58 = .ok (.putfield 34, 3) := by decide +kernel
theorem dX5_addTub_61 : decode cX5_addTub 61 = .ok (.ireturn, 1) := by decide +kernel
theorem dX5_addTent_0 : decode cX5_addTent 0 = .ok (.iload_n 1, 1) := by decide +kernel
theorem dX5_addTent_1 : decode cX5_addTent 1 = .ok (.ifCond .lt 9, 3) := by decide +kernel
theorem dX5_addTent_4 : decode cX5_addTent 4 = .ok (.iload_n 1, 1) := by decide +kernel
theorem dX5_addTent_5 : decode cX5_addTent 5 = .ok (.bipush 9, 2) := by decide +kernel
theorem dX5_addTent_7 : decode cX5_addTent 7 = .ok (.if_icmp .le 6, 3) := by decide +kernel
theorem dX5_addTent_10 : decode cX5_addTent 10 = .ok (.bipush (-3), 2) := by decide +kernel
theorem dX5_addTent_12 : decode cX5_addTent 12 = .ok (.ireturn, 1) := by decide +kernel
theorem dX5_addTent_13 : decode cX5_addTent 13 = .ok (.aload_n 0, 1) := by decide +kernel
theorem dX5_addTent_14 : decode cX5_addTent 14 = .ok (.getfield 38, 3) := by decide +kernel
theorem dX5_addTent_17 : decode cX5_addTent 17 = .ok (.ifCond .lt 11, 3) := by decide +kernel
theorem dX5_addTent_20 : decode cX5_addTent 20 = .ok (.aload_n 0, 1) := by decide +kernel
theorem dX5_addTent_21 : decode cX5_addTent 21 = .ok (.getfield 38, 3) := by decide +kernel
theorem dX5_addTent_24 : decode cX5_addTent 24 = .ok (.iconst 5, 1) := by decide +kernel
theorem dX5_addTent_25 : decode cX5_addTent 25 = .ok (.if_icmp .lt 13, 3) := by decide +kernel
theorem dX5_addTent_28 : decode cX5_addTent 28 = .ok (.aload_n 0, 1) := by decide +kernel
theorem dX5_addTent_29 : decode cX5_addTent 29 = .ok (.getfield 10, 3) := by decide +kernel
theorem dX5_addTent_32 : decode cX5_addTent 32 = .ok (.iconst 1, 1) := by decide +kernel
theorem dX5_addTent_33 : decode cX5_addTent 33 = .ok (.iconst 5, 1) := by decide +kernel
theorem dX5_addTent_34 : decode cX5_addTent 34 = .ok (.invokevirtual 82, 3) := by decide +kernel
theorem dX5_addTent_37 : decode cX5_addTent 37 = .ok (.ireturn, 1) := by decide +kernel
theorem dX5_addTent_38 : decode cX5_addTent 38 = .ok (.aload_n 0, 1) := by decide +kernel
theorem dX5_addTent_39 : decode cX5_addTent 39 = .ok (.getfield 24, 3) := by decide +kernel
theorem dX5_addTent_42 : decode cX5_addTent 42 = .ok (.aload_n 0, 1) := by decide +kernel
theorem dX5_addTent_43 : decode cX5_addTent 43 = .ok (.getfield 38, 3) := by decide +kernel
theorem dX5_addTent_46 : decode cX5_addTent 46 = .ok (.aaload, 1) := by decide +kernel
theorem dX5_addTent_47 : decode cX5_addTent 47 = .ok (.iload_n 1, 1) := by decide +kernel
theorem dX5_addTent_48 : decode cX5_addTent 48 = .ok (.putfield 89, 3) := by decide +kernel
theorem dX5_addTent_51 : decode cX5_addTent 51 = .ok (.aload_n 0, 1) := by decide +kernel
theorem dX5_addTent_52 : decode cX5_addTent 52 = .ok (.dup, 1) := by decide +kernel
theorem dX5_addTent_53 : decode cX5_addTent 53 = .ok (.getfield 38, 3) := by decide +kernel
theorem dX5_addTent_56 : decode cX5_addTent 56 = .ok (.dup_x1, 1) := by decide +kernel
theorem dX5_addTent_57 : decode cX5_addTent 57 = .ok (.iconst 1, 1) := by decide +kernel
theorem dX5_addTent_58 : decode cX5_addTent 58 = .ok (.iadd, 1) := by decide +kernel
theorem dX5_addTent_59 : decode cX5_addTent 59 = .ok (.putfield 38, 3) := by decide +kernel
theorem dX5_addTent_62 : decode cX5_addTent 62 = .ok (.ireturn, 1) := by decide +kernel
theorem dX5_addHeater_0 : decode cX5_addHeater 0 = .ok (.aload_n 0, 1) := by decide +kernel
theorem dX5_addHeater_1 : decode cX5_addHeater 1 = .ok (.getfield 41, 3) := by decide +kernel
theorem dX5_addHeater_4 : decode cX5_addHeater 4 = .ok (.iconst 4, 1) := by decide +kernel
theorem dX5_addHeater_5 : decode cX5_addHeater 5 = .ok (.if_icmp .lt 13, 3) := by decide +kernel
theorem dX5_addHeater_8 : decode cX5_addHeater 8 = .ok (.aload_n 0, 1) := by decide +kernel
theorem dX5_addHeater_9 : decode cX5_addHeater 9 = .ok (.getfield 10, 3) := by decide +kernel
theorem dX5_addHeater_12 : decode cX5_addHeater 12 = .ok (.iconst 1, 1) := by decide +kernel
theorem dX5_addHeater_13 : decode cX5_addHeater 13 = .ok (.iconst 4, 1) := by decide +kernel
theorem dX5_addHeater_14 : decode cX5_addHeater 14 = .ok (.invokevirtual 82, 3) := by decide +kernel
theorem dX5_addHeater_17 : decode cX5_addHeater 17 = .ok (.ireturn, 1) := by decide +kernel
theorem dX5_addHeater_18 : decode cX5_addHeater 18 = .ok (.aload_n 0, 1) := by decide +kernel
theorem dX5_addHeater_19 : decode cX5_addHeater 19 = .ok (.dup, 1) := by decide +kernel
theorem dX5_addHeater_20 : decode cX5_addHeater 20 = .ok (.getfield 41, 3) := by decide +kernel
theorem dX5_addHeater_23 : decode cX5_addHeater 23 = .ok (.dup_x1, 1) := by decide +kernel
theorem dX5_addHeater_24 : decode cX5_addHeater 24 = .ok (.iconst 1, 1) := by decide +kernel
theorem dX5_addHeater_25 : decode cX5_addHeater 25 = .ok (.iadd, 1) := by decide +kernel
theorem dX5_addHeater_26 : decode cX5_addHeater 26 = .ok (.putfield 41, 3) := by decide +kernel
theorem dX5_addHeater_29 : decode cX5_addHeater 29 = .ok (.ireturn, 1) := by decide +kernel
theorem dX5_tearSeam_0 : decode cX5_tearSeam 0 = .ok (.aload_n 0, 1) := by decide +kernel
theorem dX5_tearSeam_1 : decode cX5_tearSeam 1 = .ok (.iload_n 1, 1) := by decide +kernel
theorem dX5_tearSeam_2 : decode cX5_tearSeam 2 = .ok (.invokevirtual 92, 3) := by decide +kernel
theorem dX5_tearSeam_5 : decode cX5_tearSeam 5 = .ok (.astore_n 3, 1) := by decide +kernel
theorem dX5_tearSeam_6 : decode cX5_tearSeam 6 = .ok (.aload_n 3, 1) := by decide +kernel
theorem dX5_tearSeam_7 : decode cX5_tearSeam 7 = .ok (.ifnull 10, 3) := by decide +kernel
theorem dX5_tearSeam_10 : decode cX5_tearSeam 10 = .ok (.iload_n 2, 1) := by decide +kernel
theorem dX5_tearSeam_11 : decode cX5_tearSeam 11 = .ok (.invokestatic 96, 3) := by decide +kernel
theorem dX5_tearSeam_14 : decode cX5_tearSeam 14 = .ok (.ifCond .ne 6, 3) := by decide +kernel
theorem dX5_tearSeam_17 : decode cX5_tearSeam 17 = .ok (.bipush (-2), 2) := by decide +kernel
theorem dX5_tearSeam_19 : decode cX5_tearSeam 19 = .ok (.ireturn, 1) := by decide +kernel
theorem dX5_tearSeam_20 : decode cX5_tearSeam 20 = .ok (.aload_n 3, 1) := by decide +kernel
theorem dX5_tearSeam_21 : decode cX5_tearSeam 21 = .ok (.dup, 1) := by decide +kernel
theorem dX5_tearSeam_22 : decode cX5_tearSeam 22 = .ok (.getfield 99, 3) := by decide +kernel
theorem dX5_tearSeam_25 : decode cX5_tearSeam 25 = .ok (.iconst 1, 1) := by decide +kernel
theorem dX5_tearSeam_26 : decode cX5_tearSeam 26 = .ok (.iload_n 2, 1) := by decide +kernel
theorem dX5_tearSeam_27 : decode cX5_tearSeam 27 = .ok (.ishl, 1) := by decide +kernel
theorem dX5_tearSeam_28 : decode cX5_tearSeam 28 = .ok (.ior, 1) := by decide +kernel
theorem dX5_tearSeam_29 : decode cX5_tearSeam 29 = .ok (.putfield 99, 3) := by decide +kernel
theorem dX5_tearSeam_32 : decode cX5_tearSeam 32 = .ok (.aload_n 3, 1) := by decide +kernel
theorem dX5_tearSeam_33 : decode cX5_tearSeam 33 = .ok (.invokevirtual 102, 3) := by decide +kernel
theorem dX5_tearSeam_36 : decode cX5_tearSeam 36 = .ok (.ireturn, 1) := by decide +kernel
theorem dX5_mendSeam_0 : decode cX5_mendSeam 0 = .ok (.aload_n 0, 1) := by decide +kernel
theorem dX5_mendSeam_1 : decode cX5_mendSeam 1 = .ok (.iload_n 1, 1) := by decide +kernel
theorem dX5_mendSeam_2 : decode cX5_mendSeam 2 = .ok (.invokevirtual 92, 3) := by decide +kernel
theorem dX5_mendSeam_5 : decode cX5_mendSeam 5 = .ok (.astore_n 3, 1) := by decide +kernel
theorem dX5_mendSeam_6 : decode cX5_mendSeam 6 = .ok (.aload_n 3, 1) := by decide +kernel
theorem dX5_mendSeam_7 : decode cX5_mendSeam 7 = .ok (.ifnull 10, 3) := by decide +kernel
theorem dX5_mendSeam_10 : decode cX5_mendSeam 10 = .ok (.iload_n 2, 1) := by decide +kernel
theorem dX5_mendSeam_11 : decode cX5_mendSeam 11 = .ok (.invokestatic 96, 3) := by decide +kernel
theorem dX5_mendSeam_14 : decode cX5_mendSeam 14 = .ok (.ifCond .ne 6, 3) := by decide +kernel
theorem dX5_mendSeam_17 : decode cX5_mendSeam 17 = .ok (.bipush (-2), 2) := by decide +kernel
theorem dX5_mendSeam_19 : decode cX5_mendSeam 19 = .ok (.ireturn, 1) := by decide +kernel
theorem dX5_mendSeam_20 : decode cX5_mendSeam 20 = .ok (.aload_n 3, 1) := by decide +kernel
theorem dX5_mendSeam_21 : decode cX5_mendSeam 21 = .ok (.iload_n 2, 1) := by decide +kernel
theorem dX5_mendSeam_22 : decode cX5_mendSeam 22 = .ok (.invokevirtual 106, 3) := by decide +kernel
theorem dX5_mendSeam_25 : decode cX5_mendSeam 25 = .ok (.ifCond .ne 14, 3) := by decide +kernel
theorem dX5_mendSeam_28 : decode cX5_mendSeam 28 = .ok (.aload_n 0, 1) := by decide +kernel
theorem dX5_mendSeam_29 : decode cX5_mendSeam 29 = .ok (.getfield 10, 3) := by decide +kernel
theorem dX5_mendSeam_32 : decode cX5_mendSeam 32 = .ok (.bipush 11, 2) := by decide +kernel
theorem dX5_mendSeam_34 : decode cX5_mendSeam 34 = .ok (.iload_n 2, 1) := by decide +kernel
theorem dX5_mendSeam_35 : decode cX5_mendSeam 35 = .ok (.invokevirtual 82, 3) := by decide +kernel
theorem dX5_mendSeam_38 : decode cX5_mendSeam 38 = .ok (.ireturn, 1) := by decide +kernel
theorem dX5_mendSeam_39 : decode cX5_mendSeam 39 = .ok (.aload_n 3, 1) := by decide +kernel
theorem dX5_mendSeam_40 : decode cX5_mendSeam 40 = .ok (.getfield 109, 3) := by decide +kernel
theorem dX5_mendSeam_43 : decode cX5_mendSeam 43 = .ok (.ifCond .le 17, 3) := by decide +kernel
theorem dX5_mendSeam_46 : decode cX5_mendSeam 46 = .ok (.aload_n 0, 1) := by decide +kernel
theorem dX5_mendSeam_47 : decode cX5_mendSeam 47 = .ok (.getfield 10, 3) := by decide +kernel
theorem dX5_mendSeam_50 : decode cX5_mendSeam 50 = .ok (.bipush 14, 2) := by decide +kernel
theorem dX5_mendSeam_52 : decode cX5_mendSeam 52 = .ok (.aload_n 3, 1) := by decide +kernel
theorem dX5_mendSeam_53 : decode cX5_mendSeam 53 = .ok (.getfield 109, 3) := by decide +kernel
theorem dX5_mendSeam_56 : decode cX5_mendSeam 56 = .ok (.invokevirtual 82, 3) := by decide +kernel
theorem dX5_mendSeam_59 : decode cX5_mendSeam 59 = .ok (.ireturn, 1) := by decide +kernel
theorem dX5_mendSeam_60 : decode cX5_mendSeam 60 = .ok (.aload_n 0, 1) := by decide +kernel
theorem dX5_mendSeam_61 : decode cX5_mendSeam 61 = .ok (.iconst 2, 1) := by decide +kernel
theorem dX5_mendSeam_62 : decode cX5_mendSeam 62 = .ok (.invokevirtual 112, 3) := by decide +kernel
theorem dX5_mendSeam_65 : decode cX5_mendSeam 65 = .ok (.ifCond .eq 5, 3) := by decide +kernel
theorem dX5_mendSeam_68 : decode cX5_mendSeam 68 = .ok (.iconst (-1), 1) := by decide +kernel
theorem dX5_mendSeam_69 : decode cX5_mendSeam 69 = .ok (.ireturn, 1) := by decide +kernel
theorem dX5_mendSeam_70 : decode cX5_mendSeam 70 = .ok (.aload_n 0, 1) := by decide +kernel
theorem dX5_mendSeam_71 : decode cX5_mendSeam 71 = .ok (.dup, 1) := by decide +kernel
theorem dX5_mendSeam_72 : decode cX5_mendSeam 72 = .ok (.getfield 62, 3) := by decide +kernel
theorem dX5_mendSeam_75 : decode cX5_mendSeam 75 = .ok (.iconst 2, 1) := by decide +kernel
theorem dX5_mendSeam_76 : decode cX5_mendSeam 76 = .ok (.isub, 1) := by decide +kernel
theorem dX5_mendSeam_77 : decode cX5_mendSeam 77 = .ok (.putfield 62, 3) := by decide +kernel
theorem dX5_mendSeam_80 : decode cX5_mendSeam 80 = .ok (.aload_n 3, 1) := by decide +kernel
theorem dX5_mendSeam_81 : decode cX5_mendSeam 81 = .ok (.dup, 1) := by decide +kernel
theorem dX5_mendSeam_82 : decode cX5_mendSeam 82 = .ok (.getfield 99, 3) := by decide +kernel
theorem dX5_mendSeam_85 : decode cX5_mendSeam 85 = .ok (.iconst 1, 1) := by decide +kernel
theorem dX5_mendSeam_86 : decode cX5_mendSeam 86 = .ok (.iload_n 2, 1) := by decide +kernel
theorem dX5_mendSeam_87 : decode cX5_mendSeam 87 = .ok (.ishl, 1) := by decide +kernel
theorem dX5_mendSeam_88 : decode cX5_mendSeam 88 = .ok (.iconst (-1), 1) := by decide +kernel
theorem dX5_mendSeam_89 : decode cX5_mendSeam 89 = .ok (.ixor, 1) := by decide +kernel
theorem dX5_mendSeam_90 : decode cX5_mendSeam 90 = .ok (.iand, 1) := by decide +kernel
theorem dX5_mendSeam_91 : decode cX5_mendSeam 91 = .ok (.putfield 99, 3) := by decide +kernel
theorem dX5_mendSeam_94 : decode cX5_mendSeam 94 = .ok (.aload_n 3, 1) := by decide +kernel
theorem dX5_mendSeam_95 : decode cX5_mendSeam 95 = .ok (.invokevirtual 102, 3) := by decide +kernel
theorem dX5_mendSeam_98 : decode cX5_mendSeam 98 = .ok (.ireturn, 1) := by decide +kernel
theorem dX5_isTooDear_0 : decode cX5_isTooDear 0 = .ok (.iload_n 1, 1) := by decide +kernel
theorem dX5_isTooDear_1 : decode cX5_isTooDear 1 = .ok (.aload_n 0, 1) := by decide +kernel
theorem dX5_isTooDear_2 : decode cX5_isTooDear 2 = .ok (.getfield 62, 3) := by decide +kernel
theorem dX5_isTooDear_5 : decode cX5_isTooDear 5 = .ok (.if_icmp .le 21, 3) := by decide +kernel
theorem dX5_isTooDear_8 : decode cX5_isTooDear 8 = .ok (.aload_n 0, 1) := by decide +kernel
theorem dX5_isTooDear_9 : decode cX5_isTooDear 9 = .ok (.getfield 10, 3) := by decide +kernel
theorem dX5_isTooDear_12 : decode cX5_isTooDear 12 = .ok (.bipush 12, 2) := by decide +kernel
theorem dX5_isTooDear_14 : decode cX5_isTooDear 14 = .ok (.iload_n 1, 1) := by decide +kernel
theorem dX5_isTooDear_15 : decode cX5_isTooDear 15 = .ok (.aload_n 0, 1) := by decide +kernel
theorem dX5_isTooDear_16 : decode cX5_isTooDear 16 = .ok (.getfield 62, 3) := by decide +kernel
theorem dX5_isTooDear_19 : decode cX5_isTooDear 19 = .ok (.isub, 1) := by decide +kernel
theorem dX5_isTooDear_20 : decode cX5_isTooDear 20 = .ok (.invokevirtual 82, 3) := by decide +kernel
theorem dX5_isTooDear_23 : decode cX5_isTooDear 23 = .ok (.pop, 1) := by decide +kernel
theorem dX5_isTooDear_24 : decode cX5_isTooDear 24 = .ok (.iconst 1, 1) := by decide +kernel
theorem dX5_isTooDear_25 : decode cX5_isTooDear 25 = .ok (.ireturn, 1) := by decide +kernel
theorem dX5_isTooDear_26 : decode cX5_isTooDear 26 = .ok (.iconst 0, 1) := by decide +kernel
theorem dX5_isTooDear_27 : decode cX5_isTooDear 27 = .ok (.ireturn, 1) := by decide +kernel
theorem dX5_bestStored_0 : decode cX5_bestStored 0 = .ok (.iconst (-1), 1) := by decide +kernel
theorem dX5_bestStored_1 : decode cX5_bestStored 1 = .ok (.istore_n 1, 1) := by decide +kernel
theorem dX5_bestStored_2 : decode cX5_bestStored 2 = .ok (.aconst_null, 1) := by decide +kernel
theorem dX5_bestStored_3 : decode cX5_bestStored 3 = .ok (.astore_n 2, 1) := by decide +kernel
theorem dX5_bestStored_4 : decode cX5_bestStored 4 = .ok (.iconst 0, 1) := by decide +kernel
theorem dX5_bestStored_5 : decode cX5_bestStored 5 = .ok (.istore_n 3, 1) := by decide +kernel
theorem dX5_bestStored_6 : decode cX5_bestStored 6 = .ok (.iload_n 3, 1) := by decide +kernel
theorem dX5_bestStored_7 : decode cX5_bestStored 7 = .ok (.aload_n 0, 1) := by decide +kernel
theorem dX5_bestStored_8 : decode cX5_bestStored 8 = .ok (.getfield 34, 3) := by decide +kernel
theorem dX5_bestStored_11 : decode cX5_bestStored 11 = .ok (.if_icmp .ge 51, 3) := by decide +kernel
theorem dX5_bestStored_14 : decode cX5_bestStored 14 = .ok (.aload_n 0, 1) := by decide +kernel
theorem dX5_bestStored_15 : decode cX5_bestStored 15 = .ok (.iload_n 3, 1) := by decide +kernel
theorem dX5_bestStored_16 : decode cX5_bestStored 16 = .ok (.invokevirtual 92, 3) := by decide +kernel
theorem dX5_bestStored_19 : decode cX5_bestStored 19 = .ok (.astore 4, 2) := by decide +kernel
theorem dX5_bestStored_21 : decode cX5_bestStored 21 = .ok (.aload 4, 2) := by decide +kernel
theorem dX5_bestStored_23 : decode cX5_bestStored 23 = .ok (.ifnull 33, 3) := by decide +kernel
theorem dX5_bestStored_26 : decode cX5_bestStored 26 = .ok (.aload 4, 2) := by decide +kernel
theorem dX5_bestStored_28 : decode cX5_bestStored 28 = .ok (.getfield 115, 3) := by decide +kernel
theorem dX5_bestStored_31 : decode cX5_bestStored 31 = .ok (.ifCond .ge 25, 3) := by decide +kernel
theorem dX5_bestStored_34 : decode cX5_bestStored 34 = .ok (.aload 4, 2) := by decide +kernel
theorem dX5_bestStored_36 : decode cX5_bestStored 36 = .ok (.getfield 99, 3) := by decide +kernel
theorem dX5_bestStored_39 : decode cX5_bestStored 39 = .ok (.ifCond .ne 17, 3) := by decide +kernel
theorem dX5_bestStored_42 : decode cX5_bestStored 42 = .ok (.aload 4, 2) := by decide +kernel
theorem dX5_bestStored_44 : decode cX5_bestStored 44 = .ok (.aload_n 2, 1) := by decide +kernel
theorem dX5_bestStored_45 : decode cX5_bestStored 45 = .ok (.invokestatic 118, 3) := by decide +kernel
theorem dX5_bestStored_48 : decode cX5_bestStored 48 = .ok (.ifCond .eq 8, 3) := by decide +kernel
theorem dX5_bestStored_51 : decode cX5_bestStored 51 = .ok (.iload_n 3, 1) := by decide +kernel
theorem dX5_bestStored_52 : decode cX5_bestStored 52 = .ok (.istore_n 1, 1) := by decide +kernel
theorem dX5_bestStored_53 : decode cX5_bestStored 53 = .ok (.aload 4, 2) := by decide +kernel
theorem dX5_bestStored_55 : decode cX5_bestStored 55 = .ok (.astore_n 2, 1) := by decide +kernel
theorem dX5_bestStored_56 : decode cX5_bestStored 56 = .ok (.iinc 3 1, 3) := by decide +kernel
theorem dX5_bestStored_59 : decode cX5_bestStored 59 = .ok (.goto (-53), 3) := by decide +kernel
theorem dX5_bestStored_62 : decode cX5_bestStored 62 = .ok (.iload_n 1, 1) := by decide +kernel
theorem dX5_bestStored_63 : decode cX5_bestStored 63 = .ok (.ireturn, 1) := by decide +kernel
theorem dX5_isBetter_0 : decode cX5_isBetter 0 = .ok (.aload_n 1, 1) := by decide +kernel
theorem dX5_isBetter_1 : decode cX5_isBetter 1 = .ok (.ifnull 36, 3) := by decide +kernel
theorem dX5_isBetter_4 : decode cX5_isBetter 4 = .ok (.aload_n 0, 1) := by decide +kernel
theorem dX5_isBetter_5 : decode cX5_isBetter 5 = .ok (.getfield 86, 3) := by decide +kernel
theorem dX5_isBetter_8 : decode cX5_isBetter 8 = .ok (.aload_n 1, 1) := by decide +kernel
theorem dX5_isBetter_9 : decode cX5_isBetter 9 = .ok (.getfield 86, 3) := by decide +kernel
theorem dX5_isBetter_12 : decode cX5_isBetter 12 = .ok (.if_icmp .gt 25, 3) := by decide +kernel
theorem dX5_isBetter_15 : decode cX5_isBetter 15 = .ok (.aload_n 0, 1) := by decide +kernel
theorem dX5_isBetter_16 : decode cX5_isBetter 16 = .ok (.getfield 86, 3) := by decide +kernel
theorem dX5_isBetter_19 : decode cX5_isBetter 19 = .ok (.aload_n 1, 1) := by decide +kernel
theorem dX5_isBetter_20 : decode cX5_isBetter 20 = .ok (.getfield 86, 3) := by decide +kernel
theorem dX5_isBetter_23 : decode cX5_isBetter 23 = .ok (.if_icmp .ne 18, 3) := by decide +kernel
theorem dX5_isBetter_26 : decode cX5_isBetter 26 = .ok (.aload_n 0, 1) := by decide +kernel
theorem dX5_isBetter_27 : decode cX5_isBetter 27 = .ok (.getfield 122, 3) := by decide +kernel
theorem dX5_isBetter_30 : decode cX5_isBetter 30 = .ok (.aload_n 1, 1) := by decide +kernel
theorem dX5_isBetter_31 : decode cX5_isBetter 31 = .ok (.getfield 122, 3) := by decide +kernel
theorem dX5_isBetter_34 : decode cX5_isBetter 34 = .ok (.if_icmp .ge 7, 3) := by decide +kernel
theorem dX5_isBetter_37 : decode cX5_isBetter 37 = .ok (.iconst 1, 1) := by decide +kernel
theorem dX5_isBetter_38 : decode cX5_isBetter 38 = .ok (.goto 4, 3) := by decide +kernel
theorem dX5_isBetter_41 : decode cX5_isBetter 41 = .ok (.iconst 0, 1) := by decide +kernel
theorem dX5_isBetter_42 : decode cX5_isBetter 42 = .ok (.ireturn, 1) := by decide +kernel
theorem dX5_goOut_0 : decode cX5_goOut 0 = .ok (.aload_n 0, 1) := by decide +kernel
theorem dX5_goOut_1 : decode cX5_goOut 1 = .ok (.iload_n 1, 1) := by decide +kernel
theorem dX5_goOut_2 : decode cX5_goOut 2 = .ok (.invokevirtual 92, 3) := by decide +kernel
theorem dX5_goOut_5 : decode cX5_goOut 5 = .ok (.astore_n 3, 1) := by decide +kernel
theorem dX5_goOut_6 : decode cX5_goOut 6 = .ok (.aload_n 0, 1) := by decide +kernel
theorem dX5_goOut_7 : decode cX5_goOut 7 = .ok (.iload_n 2, 1) := by decide +kernel
theorem dX5_goOut_8 : decode cX5_goOut 8 = .ok (.invokevirtual 125, 3) := by decide +kernel
theorem dX5_goOut_11 : decode cX5_goOut 11 = .ok (.astore 4, 2) := by decide +kernel
theorem dX5_goOut_13 : decode cX5_goOut 13 = .ok (.aload_n 3, 1) := by decide +kernel
theorem dX5_goOut_14 : decode cX5_goOut 14 = .ok (.ifnull 8, 3) := by decide +kernel
theorem dX5_goOut_17 : decode cX5_goOut 17 = .ok (.aload 4, 2) := by decide +kernel
theorem dX5_goOut_19 : decode cX5_goOut 19 = .ok (.ifnonnull 6, 3) := by decide +kernel
theorem dX5_goOut_22 : decode cX5_goOut 22 = .ok (.bipush (-2), 2) := by decide +kernel
theorem dX5_goOut_24 : decode cX5_goOut 24 = .ok (.ireturn, 1) := by decide +kernel
theorem dX5_goOut_25 : decode cX5_goOut 25 = .ok (.aload_n 3, 1) := by decide +kernel
theorem dX5_goOut_26 : decode cX5_goOut 26 = .ok (.getfield 115, 3) := by decide +kernel
theorem dX5_goOut_29 : decode cX5_goOut 29 = .ok (.ifCond .lt 16, 3) := by decide +kernel
theorem dX5_goOut_32 : decode cX5_goOut 32 = .ok (.aload_n 0, 1) := by decide +kernel
theorem dX5_goOut_33 : decode cX5_goOut 33 = .ok (.getfield 10, 3) := by decide +kernel
theorem dX5_goOut_36 : decode cX5_goOut 36 = .ok (.iconst 2, 1) := by decide +kernel
theorem dX5_goOut_37 : decode cX5_goOut 37 = .ok (.aload_n 3, 1) := by decide +kernel
theorem dX5_goOut_38 : decode cX5_goOut 38 = .ok (.getfield 115, 3) := by decide +kernel
theorem dX5_goOut_41 : decode cX5_goOut 41 = .ok (.invokevirtual 82, 3) := by decide +kernel
theorem dX5_goOut_44 : decode cX5_goOut 44 = .ok (.ireturn, 1) := by decide +kernel
theorem dX5_goOut_45 : decode cX5_goOut 45 = .ok (.aload_n 3, 1) := by decide +kernel
theorem dX5_goOut_46 : decode cX5_goOut 46 = .ok (.getfield 99, 3) := by decide +kernel
theorem dX5_goOut_49 : decode cX5_goOut 49 = .ok (.ifCond .eq 17, 3) := by decide +kernel
theorem dX5_goOut_52 : decode cX5_goOut 52 = .ok (.aload_n 0, 1) := by decide +kernel
theorem dX5_goOut_53 : decode cX5_goOut 53 = .ok (.getfield 10, 3) := by decide +kernel
theorem dX5_goOut_56 : decode cX5_goOut 56 = .ok (.iconst 3, 1) := by decide +kernel
theorem dX5_goOut_57 : decode cX5_goOut 57 = .ok (.aload_n 3, 1) := by decide +kernel
theorem dX5_goOut_58 : decode cX5_goOut 58 = .ok (.iconst 0, 1) := by decide +kernel
theorem dX5_goOut_59 : decode cX5_goOut 59 = .ok (.invokevirtual 129, 3) := by decide +kernel
theorem dX5_goOut_62 : decode cX5_goOut 62 = .ok (.invokevirtual 82, 3) := by decide +kernel
theorem dX5_goOut_65 : decode cX5_goOut 65 = .ok (.ireturn, 1) := by decide +kernel
theorem dX5_goOut_66 : decode cX5_goOut 66 = .ok (.aload 4, 2) := by decide +kernel
theorem dX5_goOut_68 : decode cX5_goOut 68 = .ok (.getfield 133, 3) := by decide +kernel
theorem dX5_goOut_71 : decode cX5_goOut 71 = .ok (.ifCond .lt 17, 3) := by decide +kernel
theorem dX5_goOut_74 : decode cX5_goOut 74 = .ok (.aload_n 0, 1) := by decide +kernel
theorem dX5_goOut_75 : decode cX5_goOut 75 = .ok (.getfield 10, 3) := by decide +kernel
theorem dX5_goOut_78 : decode cX5_goOut 78 = .ok (.iconst 4, 1) := by decide +kernel
theorem dX5_goOut_79 : decode cX5_goOut 79 = .ok (.aload 4, 2) := by decide +kernel
theorem dX5_goOut_81 : decode cX5_goOut 81 = .ok (.getfield 133, 3) := by decide +kernel
theorem dX5_goOut_84 : decode cX5_goOut 84 = .ok (.invokevirtual 82, 3) := by decide +kernel
theorem dX5_goOut_87 : decode cX5_goOut 87 = .ok (.ireturn, 1) := by decide +kernel
theorem dX5_goOut_88 : decode cX5_goOut 88 = .ok (.aload_n 3, 1) := by decide +kernel
theorem dX5_goOut_89 : decode cX5_goOut 89 = .ok (.iload_n 2, 1) := by decide +kernel
theorem dX5_goOut_90 : decode cX5_goOut 90 = .ok (.putfield 115, 3) := by decide +kernel
theorem dX5_goOut_93 : decode cX5_goOut 93 = .ok (.aload 4, 2) := by decide +kernel
theorem dX5_goOut_95 : decode cX5_goOut 95 = .ok (.iload_n 1, 1) := by decide +kernel
theorem dX5_goOut_96 : decode cX5_goOut 96 = .ok (.putfield 133, 3) := by decide +kernel
theorem dX5_goOut_99 : decode cX5_goOut 99 = .ok (.aload_n 0, 1) := by decide +kernel
theorem dX5_goOut_100 : decode cX5_goOut 100 = .ok (.dup, 1) := by decide +kernel
theorem dX5_goOut_101 : decode cX5_goOut 101 = .ok (.getfield 62, 3) := by decide +kernel
theorem dX5_goOut_104 : decode cX5_goOut 104 = .ok (.iconst 2, 1) := by decide +kernel
theorem dX5_goOut_105 : decode cX5_goOut 105 = .ok (.aload_n 3, 1) := by decide +kernel
theorem dX5_goOut_106 : decode cX5_goOut 106 = .ok (.getfield 86, 3) := by decide +kernel
theorem dX5_goOut_109 : decode cX5_goOut 109 = .ok (.imul, 1) := by decide +kernel
theorem dX5_goOut_110 : decode cX5_goOut 110 = .ok (.iadd, 1) := by decide +kernel
theorem dX5_goOut_111 : decode cX5_goOut 111 = .ok (.putfield 62, 3) := by decide +kernel
theorem dX5_goOut_114 : decode cX5_goOut 114 = .ok (.aload_n 0, 1) := by decide +kernel
theorem dX5_goOut_115 : decode cX5_goOut 115 = .ok (.getfield 62, 3) := by decide +kernel
theorem dX5_goOut_118 : decode cX5_goOut 118 = .ok (.ireturn, 1) := by decide +kernel
theorem dX5_bringBack_0 : decode cX5_bringBack 0 = .ok (.aload_n 0, 1) := by decide +kernel
theorem dX5_bringBack_1 : decode cX5_bringBack 1 = .ok (.iload_n 1, 1) := by decide +kernel
theorem dX5_bringBack_2 : decode cX5_bringBack 2 = .ok (.invokevirtual 92, 3) := by decide +kernel
theorem dX5_bringBack_5 : decode cX5_bringBack 5 = .ok (.astore_n 2, 1) := by decide +kernel
theorem dX5_bringBack_6 : decode cX5_bringBack 6 = .ok (.aload_n 2, 1) := by decide +kernel
theorem dX5_bringBack_7 : decode cX5_bringBack 7 = .ok (.ifnonnull 6, 3) := by decide +kernel
theorem dX5_bringBack_10 : decode cX5_bringBack 10 = .ok (.bipush (-2), 2) := by decide +kernel
theorem dX5_bringBack_12 : decode cX5_bringBack 12 = .ok (.ireturn, 1) := by decide +kernel
theorem dX5_bringBack_13 : decode cX5_bringBack 13 = .ok (.aload_n 0, 1) := by decide +kernel
theorem dX5_bringBack_14 : decode cX5_bringBack 14 = .ok (.aload_n 2, 1) := by decide +kernel
theorem dX5_bringBack_15 : decode cX5_bringBack 15 = .ok (.getfield 115, 3) := by decide +kernel
theorem dX5_bringBack_18 : decode cX5_bringBack 18 = .ok (.invokevirtual 125, 3) := by decide +kernel
theorem dX5_bringBack_21 : decode cX5_bringBack 21 = .ok (.astore_n 3, 1) := by decide +kernel
theorem dX5_bringBack_22 : decode cX5_bringBack 22 = .ok (.aload_n 3, 1) := by decide +kernel
theorem dX5_bringBack_23 : decode cX5_bringBack 23 = .ok (.ifnonnull 13, 3) := by decide +kernel
theorem dX5_bringBack_26 : decode cX5_bringBack 26 = .ok (.aload_n 0, 1) := by decide +kernel
theorem dX5_bringBack_27 : decode cX5_bringBack 27 = .ok (.getfield 10, 3) := by decide +kernel
theorem dX5_bringBack_30 : decode cX5_bringBack 30 = .ok (.iconst 5, 1) := by decide +kernel
theorem dX5_bringBack_31 : decode cX5_bringBack 31 = .ok (.iload_n 1, 1) := by decide +kernel
theorem dX5_bringBack_32 : decode cX5_bringBack 32 = .ok (.invokevirtual 82, 3) := by decide +kernel
theorem dX5_bringBack_35 : decode cX5_bringBack 35 = .ok (.ireturn, 1) := by decide +kernel
theorem dX5_bringBack_36 : decode cX5_bringBack 36 = .ok (.aload_n 2, 1) := by decide +kernel
theorem dX5_bringBack_37 : decode cX5_bringBack 37 = .ok (.getfield 109, 3) := by decide +kernel
theorem dX5_bringBack_40 : decode cX5_bringBack 40 = .ok (.istore 4, 2) := by decide +kernel
theorem dX5_bringBack_42 : decode cX5_bringBack 42 = .ok (.aload_n 2, 1) := by decide +kernel
theorem dX5_bringBack_43 : decode cX5_bringBack 43 = .ok (.invokevirtual 136, 3) := by decide +kernel
theorem dX5_bringBack_46 : decode cX5_bringBack 46 = .ok (.aload_n 2, 1) := by decide +kernel
theorem dX5_bringBack_47 : decode cX5_bringBack 47 = .ok (.iconst (-1), 1) := by decide +kernel
theorem dX5_bringBack_48 : decode cX5_bringBack 48 = .ok (.putfield 115, 3) := by decide +kernel
theorem dX5_bringBack_51 : decode cX5_bringBack 51 = .ok (.aload_n 3, 1) := by decide +kernel
theorem dX5_bringBack_52 : decode cX5_bringBack 52 = .ok (.iconst (-1), 1) := by decide +kernel
theorem dX5_bringBack_53 : decode cX5_bringBack 53 = .ok (.putfield 133, 3) := by decide +kernel
theorem dX5_bringBack_56 : decode cX5_bringBack 56 = .ok (.iload 4, 2) := by decide +kernel
theorem dX5_bringBack_58 : decode cX5_bringBack 58 = .ok (.ireturn, 1) := by decide +kernel
theorem dX5_addGuest_0 : decode cX5_addGuest 0 = .ok (.aload_n 0, 1) := by decide +kernel
theorem dX5_addGuest_1 : decode cX5_addGuest 1 = .ok (.iload_n 1, 1) := by decide +kernel
theorem dX5_addGuest_2 : decode cX5_addGuest 2 = .ok (.invokevirtual 125, 3) := by decide +kernel
theorem dX5_addGuest_5 : decode cX5_addGuest 5 = .ok (.astore_n 2, 1) := by decide +kernel
theorem dX5_addGuest_6 : decode cX5_addGuest 6 = .ok (.aload_n 2, 1) := by decide +kernel
theorem dX5_addGuest_7 : decode cX5_addGuest 7 = .ok (.ifnonnull 6, 3) := by decide +kernel
theorem dX5_addGuest_10 : decode cX5_addGuest 10 = .ok (.bipush (-2), 2) := by decide +kernel
theorem dX5_addGuest_12 : decode cX5_addGuest 12 = .ok (.ireturn, 1) := by decide +kernel
theorem dX5_addGuest_13 : decode cX5_addGuest 13 = .ok (.aload_n 2, 1) := by decide +kernel
theorem dX5_addGuest_14 : decode cX5_addGuest 14 = .ok (.getfield 139, 3) := by decide +kernel
theorem dX5_addGuest_17 : decode cX5_addGuest 17 = .ok (.bipush 6, 2) := by decide +kernel
theorem dX5_addGuest_19 : decode cX5_addGuest 19 = .ok (.if_icmp .lt 14, 3) := by decide +kernel
theorem dX5_addGuest_22 : decode cX5_addGuest 22 = .ok (.aload_n 0, 1) := by decide +kernel
theorem dX5_addGuest_23 : decode cX5_addGuest 23 = .ok (.getfield 10, 3) := by decide +kernel
theorem dX5_addGuest_26 : decode cX5_addGuest 26 = .ok (.iconst 1, 1) := by decide +kernel
theorem dX5_addGuest_27 : decode cX5_addGuest 27 = .ok (.bipush 6, 2) := by decide +kernel
theorem dX5_addGuest_29 : decode cX5_addGuest 29 = .ok (.invokevirtual 82, 3) := by decide +kernel
theorem dX5_addGuest_32 : decode cX5_addGuest 32 = .ok (.ireturn, 1) := by decide +kernel
theorem dX5_addGuest_33 : decode cX5_addGuest 33 = .ok (.aload_n 2, 1) := by decide +kernel
theorem dX5_addGuest_34 : decode cX5_addGuest 34 = .ok (.getfield 133, 3) := by decide +kernel
theorem dX5_addGuest_37 : decode cX5_addGuest 37 = .ok (.ifCond .ge 14, 3) := by decide +kernel
theorem dX5_addGuest_40 : decode cX5_addGuest 40 = .ok (.aload_n 0, 1) := by decide +kernel
theorem dX5_addGuest_41 : decode cX5_addGuest 41 = .ok (.getfield 10, 3) := by decide +kernel
theorem dX5_addGuest_44 : decode cX5_addGuest 44 = .ok (.bipush 6, 2) := by decide +kernel
theorem dX5_addGuest_46 : decode cX5_addGuest 46 = .ok (.iload_n 1, 1) := by decide +kernel
theorem dX5_addGuest_47 : decode cX5_addGuest 47 = .ok (.invokevirtual 82, 3) := by decide +kernel
theorem dX5_addGuest_50 : decode cX5_addGuest 50 = .ok (.ireturn, 1) := by decide +kernel
theorem dX5_addGuest_51 : decode cX5_addGuest 51 = .ok (.aload_n 0, 1) := by decide +kernel
theorem dX5_addGuest_52 : decode cX5_addGuest 52 = .ok (.getfield 47, 3) := by decide +kernel
theorem dX5_addGuest_55 : decode cX5_addGuest 55 = .ok (.ifCond .ne 17, 3) := by decide +kernel
theorem dX5_addGuest_58 : decode cX5_addGuest 58 = .ok (.aload_n 0, 1) := by decide +kernel
theorem dX5_addGuest_59 : decode cX5_addGuest 59 = .ok (.getfield 10, 3) := by decide +kernel
theorem dX5_addGuest_62 : decode cX5_addGuest 62 = .ok (.bipush 10, 2) := by decide +kernel
theorem dX5_addGuest_64 : decode cX5_addGuest 64 = .ok (.aload_n 0, 1) := by decide +kernel
theorem dX5_addGuest_65 : decode cX5_addGuest 65 = .ok (.getfield 50, 3) := by decide +kernel
theorem dX5_addGuest_68 : decode cX5_addGuest 68 = .ok (.invokevirtual 82, 3) := by decide +kernel
theorem dX5_addGuest_71 : decode cX5_addGuest 71 = .ok (.ireturn, 1) := by decide +kernel
theorem dX5_addGuest_72 : decode cX5_addGuest 72 = .ok (.aload_n 0, 1) := by decide +kernel
theorem dX5_addGuest_73 : decode cX5_addGuest 73 = .ok (.dup, 1) := by decide +kernel
theorem dX5_addGuest_74 : decode cX5_addGuest 74 = .ok (.getfield 47, 3) := by decide +kernel
theorem dX5_addGuest_77 : decode cX5_addGuest 77 = .ok (.iconst 1, 1) := by decide +kernel
theorem dX5_addGuest_78 : decode cX5_addGuest 78 = .ok (.isub, 1) := by decide +kernel
theorem dX5_addGuest_79 : decode cX5_addGuest 79 = .ok (.putfield 47, 3) := by decide +kernel
theorem dX5_addGuest_82 : decode cX5_addGuest 82 = .ok (.aload_n 2, 1) := by decide +kernel
theorem dX5_addGuest_83 : decode cX5_addGuest 83 = .ok (.aload_n 0, 1) := by decide +kernel
theorem dX5_addGuest_84 : decode cX5_addGuest 84 = .ok (.getfield 53, 3) := by decide +kernel
theorem dX5_addGuest_87 : decode cX5_addGuest 87 = .ok (.invokevirtual 142, 3) := by decide +kernel
theorem dX5_addGuest_90 : decode cX5_addGuest 90 = .ok (.aload_n 0, 1) := by decide +kernel
theorem dX5_addGuest_91 : decode cX5_addGuest 91 = .ok (.dup, 1) := by decide +kernel
theorem dX5_addGuest_92 : decode cX5_addGuest 92 = .ok (.getfield 53, 3) := by decide +kernel
theorem dX5_addGuest_95 : decode cX5_addGuest 95 = .ok (.dup_x1, 1) := by decide +kernel
theorem dX5_addGuest_96 : decode cX5_addGuest 96 = .ok (.iconst 1, 1) := by decide +kernel
theorem dX5_addGuest_97 : decode cX5_addGuest 97 = .ok (.iadd, 1) := by decide +kernel
theorem dX5_addGuest_98 : decode cX5_addGuest 98 = .ok (.putfield 53, 3) := by decide +kernel
theorem dX5_addGuest_101 : decode cX5_addGuest 101 = .ok (.ireturn, 1) := by decide +kernel
theorem dX5_awaits_0 : decode cX5_awaits 0 = .ok (.iconst 0, 1) := by decide +kernel
theorem dX5_awaits_1 : decode cX5_awaits 1 = .ok (.istore_n 2, 1) := by decide +kernel
theorem dX5_awaits_2 : decode cX5_awaits 2 = .ok (.iload_n 2, 1) := by decide +kernel
theorem dX5_awaits_3 : decode cX5_awaits 3 = .ok (.aload_n 0, 1) := by decide +kernel
theorem dX5_awaits_4 : decode cX5_awaits 4 = .ok (.getfield 38, 3) := by decide +kernel
theorem dX5_awaits_7 : decode cX5_awaits 7 = .ok (.if_icmp .ge 29, 3) := by decide +kernel
theorem dX5_awaits_10 : decode cX5_awaits 10 = .ok (.aload_n 0, 1) := by decide +kernel
theorem dX5_awaits_11 : decode cX5_awaits 11 = .ok (.iload_n 2, 1) := by decide +kernel
theorem dX5_awaits_12 : decode cX5_awaits 12 = .ok (.invokevirtual 125, 3) := by decide +kernel
theorem dX5_awaits_15 : decode cX5_awaits 15 = .ok (.astore_n 3, 1) := by decide +kernel
theorem dX5_awaits_16 : decode cX5_awaits 16 = .ok (.aload_n 3, 1) := by decide +kernel
theorem dX5_awaits_17 : decode cX5_awaits 17 = .ok (.ifnull 13, 3) := by decide +kernel
theorem dX5_awaits_20 : decode cX5_awaits 20 = .ok (.aload_n 3, 1) := by decide +kernel
theorem dX5_awaits_21 : decode cX5_awaits 21 = .ok (.iload_n 1, 1) := by decide +kernel
theorem dX5_awaits_22 : decode cX5_awaits 22 = .ok (.invokevirtual 146, 3) := by decide +kernel
theorem dX5_awaits_25 : decode cX5_awaits 25 = .ok (.ifCond .eq 5, 3) := by decide +kernel
theorem dX5_awaits_28 : decode cX5_awaits 28 = .ok (.iconst 1, 1) := by decide +kernel
theorem dX5_awaits_29 : decode cX5_awaits 29 = .ok (.ireturn, 1) := by decide +kernel
theorem dX5_awaits_30 : decode cX5_awaits 30 = .ok (.iinc 2 1, 3) := by decide +kernel
theorem dX5_awaits_33 : decode cX5_awaits 33 = .ok (.goto (-31), 3) := by decide +kernel
theorem dX5_awaits_36 : decode cX5_awaits 36 = .ok (.iconst 0, 1) := by decide +kernel
theorem dX5_awaits_37 : decode cX5_awaits 37 = .ok (.ireturn, 1) := by decide +kernel
theorem dX5_putHeater_0 : decode cX5_putHeater 0 = .ok (.aload_n 0, 1) := by decide +kernel
theorem dX5_putHeater_1 : decode cX5_putHeater 1 = .ok (.iload_n 1, 1) := by decide +kernel
theorem dX5_putHeater_2 : decode cX5_putHeater 2 = .ok (.invokevirtual 149, 3) := by decide +kernel
theorem dX5_putHeater_5 : decode cX5_putHeater 5 = .ok (.astore_n 3, 1) := by decide +kernel
theorem dX5_putHeater_6 : decode cX5_putHeater 6 = .ok (.aload_n 0, 1) := by decide +kernel
theorem dX5_putHeater_7 : decode cX5_putHeater 7 = .ok (.iload_n 2, 1) := by decide +kernel
theorem dX5_putHeater_8 : decode cX5_putHeater 8 = .ok (.invokevirtual 125, 3) := by decide +kernel
theorem dX5_putHeater_11 : decode cX5_putHeater 11 = .ok (.astore 4, 2) := by decide +kernel
theorem dX5_putHeater_13 : decode cX5_putHeater 13 = .ok (.aload_n 3, 1) := by decide +kernel
theorem dX5_putHeater_14 : decode cX5_putHeater 14 = .ok (.ifnull 8, 3) := by decide +kernel
theorem dX5_putHeater_17 : decode cX5_putHeater 17 = .ok (.aload 4, 2) := by decide +kernel
theorem dX5_putHeater_19 : decode cX5_putHeater 19 = .ok (.ifnonnull 6, 3) := by decide +kernel
theorem dX5_putHeater_22 : decode cX5_putHeater 22 = .ok (.bipush (-2), 2) := by decide +kernel
theorem dX5_putHeater_24 : decode cX5_putHeater 24 = .ok (.ireturn, 1) := by decide +kernel
theorem dX5_putHeater_25 : decode cX5_putHeater 25 = .ok (.aload_n 3, 1) := by decide +kernel
theorem dX5_putHeater_26 : decode cX5_putHeater 26 = .ok (.getfield 153, 3) := by decide +kernel
theorem dX5_putHeater_29 : decode cX5_putHeater 29 = .ok (.ifCond .lt 17, 3) := by decide +kernel
theorem dX5_putHeater_32 : decode cX5_putHeater 32 = .ok (.aload_n 0, 1) := by decide +kernel
theorem dX5_putHeater_33 : decode cX5_putHeater 33 = .ok (.getfield 10, 3) := by decide +kernel
theorem dX5_putHeater_36 : decode cX5_putHeater 36 = .ok (.bipush 7, 2) := by decide +kernel
theorem dX5_putHeater_38 : decode cX5_putHeater 38 = .ok (.aload_n 3, 1) := by decide +kernel
theorem dX5_putHeater_39 : decode cX5_putHeater 39 = .ok (.getfield 153, 3) := by decide +kernel
theorem dX5_putHeater_42 : decode cX5_putHeater 42 = .ok (.invokevirtual 82, 3) := by decide +kernel
theorem dX5_putHeater_45 : decode cX5_putHeater 45 = .ok (.ireturn, 1) := by decide +kernel
theorem dX5_putHeater_46 : decode cX5_putHeater 46 = .ok (.aload 4, 2) := by decide +kernel
theorem dX5_putHeater_48 : decode cX5_putHeater 48 = .ok (.getfield 154, 3) := by decide +kernel
theorem dX5_putHeater_51 : decode cX5_putHeater 51 = .ok (.ifCond .lt 18, 3) := by decide +kernel
theorem dX5_putHeater_54 : decode cX5_putHeater 54 = .ok (.aload_n 0, 1) := by decide +kernel
theorem dX5_putHeater_55 : decode cX5_putHeater 55 = .ok (.getfield 10, 3) := by decide +kernel
theorem dX5_putHeater_58 : decode cX5_putHeater 58 = .ok (.bipush 8, 2) := by decide +kernel
theorem dX5_putHeater_60 : decode cX5_putHeater 60 = .ok (.aload 4, 2) := by decide +kernel
theorem dX5_putHeater_62 : decode cX5_putHeater 62 = .ok (.getfield 154, 3) := by decide +kernel
theorem dX5_putHeater_65 : decode cX5_putHeater 65 = .ok (.invokevirtual 82, 3) := by decide +kernel
theorem dX5_putHeater_68 : decode cX5_putHeater 68 = .ok (.ireturn, 1) := by decide +kernel
theorem dX5_putHeater_69 : decode cX5_putHeater 69 = .ok (.aload_n 3, 1) := by decide +kernel
theorem dX5_putHeater_70 : decode cX5_putHeater 70 = .ok (.iload_n 2, 1) := by decide +kernel
theorem dX5_putHeater_71 : decode cX5_putHeater 71 = .ok (.putfield 153, 3) := by decide +kernel
theorem dX5_putHeater_74 : decode cX5_putHeater 74 = .ok (.aload 4, 2) := by decide +kernel
theorem dX5_putHeater_76 : decode cX5_putHeater 76 = .ok (.iload_n 1, 1) := by decide +kernel
theorem dX5_putHeater_77 : decode cX5_putHeater 77 = .ok (.putfield 154, 3) := by decide +kernel
theorem dX5_putHeater_80 : decode cX5_putHeater 80 = .ok (.aload_n 3, 1) := by decide +kernel
theorem dX5_putHeater_81 : decode cX5_putHeater 81 = .ok (.getfield 157, 3) := by decide +kernel
theorem dX5_putHeater_84 : decode cX5_putHeater 84 = .ok (.ireturn, 1) := by decide +kernel
theorem dX5_takeHeater_0 : decode cX5_takeHeater 0 = .ok (.aload_n 0, 1) := by decide +kernel
theorem dX5_takeHeater_1 : decode cX5_takeHeater 1 = .ok (.iload_n 1, 1) := by decide +kernel
theorem dX5_takeHeater_2 : decode cX5_takeHeater 2 = .ok (.invokevirtual 149, 3) := by decide +kernel
theorem dX5_takeHeater_5 : decode cX5_takeHeater 5 = .ok (.astore_n 2, 1) := by decide +kernel
theorem dX5_takeHeater_6 : decode cX5_takeHeater 6 = .ok (.aload_n 2, 1) := by decide +kernel
theorem dX5_takeHeater_7 : decode cX5_takeHeater 7 = .ok (.ifnonnull 6, 3) := by decide +kernel
theorem dX5_takeHeater_10 : decode cX5_takeHeater 10 = .ok (.bipush (-2), 2) := by decide +kernel
theorem dX5_takeHeater_12 : decode cX5_takeHeater 12 = .ok (.ireturn, 1) := by decide +kernel
theorem dX5_takeHeater_13 : decode cX5_takeHeater 13 = .ok (.aload_n 2, 1) := by decide +kernel
theorem dX5_takeHeater_14 : decode cX5_takeHeater 14 = .ok (.getfield 153, 3) := by decide +kernel
theorem dX5_takeHeater_17 : decode cX5_takeHeater 17 = .ok (.istore_n 3, 1) := by decide +kernel
theorem dX5_takeHeater_18 : decode cX5_takeHeater 18 = .ok (.aload_n 0, 1) := by decide +kernel
theorem dX5_takeHeater_19 : decode cX5_takeHeater 19 = .ok (.iload_n 3, 1) := by decide +kernel
theorem dX5_takeHeater_20 : decode cX5_takeHeater 20 = .ok (.invokevirtual 125, 3) := by decide +kernel
theorem dX5_takeHeater_23 : decode cX5_takeHeater 23 = .ok (.astore 4, 2) := by decide +kernel
theorem dX5_takeHeater_25 : decode cX5_takeHeater 25 = .ok (.aload 4, 2) := by decide +kernel
theorem dX5_takeHeater_27 : decode cX5_takeHeater 27 = .ok (.ifnonnull 14, 3) := by decide +kernel
theorem dX5_takeHeater_30 : decode cX5_takeHeater 30 = .ok (.aload_n 0, 1) := by decide +kernel
theorem dX5_takeHeater_31 : decode cX5_takeHeater 31 = .ok (.getfield 10, 3) := by decide +kernel
theorem dX5_takeHeater_34 : decode cX5_takeHeater 34 = .ok (.bipush 9, 2) := by decide +kernel
theorem dX5_takeHeater_36 : decode cX5_takeHeater 36 = .ok (.iload_n 1, 1) := by decide +kernel
theorem dX5_takeHeater_37 : decode cX5_takeHeater 37 = .ok (.invokevirtual 82, 3) := by decide +kernel
theorem dX5_takeHeater_40 : decode cX5_takeHeater 40 = .ok (.ireturn, 1) := by decide +kernel
theorem dX5_takeHeater_41 : decode cX5_takeHeater 41 = .ok (.aload_n 2, 1) := by decide +kernel
theorem dX5_takeHeater_42 : decode cX5_takeHeater 42 = .ok (.iconst (-1), 1) := by decide +kernel
theorem dX5_takeHeater_43 : decode cX5_takeHeater 43 = .ok (.putfield 153, 3) := by decide +kernel
theorem dX5_takeHeater_46 : decode cX5_takeHeater 46 = .ok (.aload 4, 2) := by decide +kernel
theorem dX5_takeHeater_48 : decode cX5_takeHeater 48 = .ok (.iconst (-1), 1) := by decide +kernel
theorem dX5_takeHeater_49 : decode cX5_takeHeater 49 = .ok (.putfield 154, 3) := by decide +kernel
theorem dX5_takeHeater_52 : decode cX5_takeHeater 52 = .ok (.iload_n 3, 1) := by decide +kernel
theorem dX5_takeHeater_53 : decode cX5_takeHeater 53 = .ok (.ireturn, 1) := by decide +kernel
theorem dX5_buyGas_0 : decode cX5_buyGas 0 = .ok (.aload_n 0, 1) := by decide +kernel
theorem dX5_buyGas_1 : decode cX5_buyGas 1 = .ok (.iload_n 1, 1) := by decide +kernel
theorem dX5_buyGas_2 : decode cX5_buyGas 2 = .ok (.invokevirtual 149, 3) := by decide +kernel
theorem dX5_buyGas_5 : decode cX5_buyGas 5 = .ok (.astore_n 3, 1) := by decide +kernel
theorem dX5_buyGas_6 : decode cX5_buyGas 6 = .ok (.aload_n 3, 1) := by decide +kernel
theorem dX5_buyGas_7 : decode cX5_buyGas 7 = .ok (.ifnonnull 6, 3) := by decide +kernel
theorem dX5_buyGas_10 : decode cX5_buyGas 10 = .ok (.bipush (-2), 2) := by decide +kernel
theorem dX5_buyGas_12 : decode cX5_buyGas 12 = .ok (.ireturn, 1) := by decide +kernel
theorem dX5_buyGas_13 : decode cX5_buyGas 13 = .ok (.iload_n 2, 1) := by decide +kernel
theorem dX5_buyGas_14 : decode cX5_buyGas 14 = .ok (.iconst 1, 1) := by decide +kernel
theorem dX5_buyGas_15 : decode cX5_buyGas 15 = .ok (.if_icmp .lt 9, 3) := by decide +kernel
theorem dX5_buyGas_18 : decode cX5_buyGas 18 = .ok (.iload_n 2, 1) := by decide +kernel
theorem dX5_buyGas_19 : decode cX5_buyGas 19 = .ok (.bipush 12, 2) := by decide +kernel
theorem dX5_buyGas_21 : decode cX5_buyGas 21 = .ok (.if_icmp .le 6, 3) := by decide +kernel
theorem dX5_buyGas_24 : decode cX5_buyGas 24 = .ok (.bipush (-3), 2) := by decide +kernel
theorem dX5_buyGas_26 : decode cX5_buyGas 26 = .ok (.ireturn, 1) := by decide +kernel
theorem dX5_buyGas_27 : decode cX5_buyGas 27 = .ok (.aload_n 0, 1) := by decide +kernel
theorem dX5_buyGas_28 : decode cX5_buyGas 28 = .ok (.iload_n 2, 1) := by decide +kernel
theorem dX5_buyGas_29 : decode cX5_buyGas 29 = .ok (.invokevirtual 112, 3) := by decide +kernel
theorem dX5_buyGas_32 : decode cX5_buyGas 32 = .ok (.ifCond .eq 5, 3) := by decide +kernel
theorem dX5_buyGas_35 : decode cX5_buyGas 35 = .ok (.iconst (-1), 1) := by decide +kernel
theorem dX5_buyGas_36 : decode cX5_buyGas 36 = .ok (.ireturn, 1) := by decide +kernel
theorem dX5_buyGas_37 : decode cX5_buyGas 37 = .ok (.aload_n 0, 1) := by decide +kernel
theorem dX5_buyGas_38 : decode cX5_buyGas 38 = .ok (.dup, 1) := by decide +kernel
theorem dX5_buyGas_39 : decode cX5_buyGas 39 = .ok (.getfield 62, 3) := by decide +kernel
theorem dX5_buyGas_42 : decode cX5_buyGas 42 = .ok (.iload_n 2, 1) := by decide +kernel
theorem dX5_buyGas_43 : decode cX5_buyGas 43 = .ok (.isub, 1) := by decide +kernel
theorem dX5_buyGas_44 : decode cX5_buyGas 44 = .ok (.putfield 62, 3) := by decide +kernel
theorem dX5_buyGas_47 : decode cX5_buyGas 47 = .ok (.aload_n 3, 1) := by decide +kernel
theorem dX5_buyGas_48 : decode cX5_buyGas 48 = .ok (.bipush 60, 2) := by decide +kernel
theorem dX5_buyGas_50 : decode cX5_buyGas 50 = .ok (.aload_n 3, 1) := by decide +kernel
theorem dX5_buyGas_51 : decode cX5_buyGas 51 = .ok (.getfield 157, 3) := by decide +kernel
theorem dX5_buyGas_54 : decode cX5_buyGas 54 = .ok (.iconst 5, 1) := by decide +kernel
theorem dX5_buyGas_55 : decode cX5_buyGas 55 = .ok (.iload_n 2, 1) := by decide +kernel
theorem dX5_buyGas_56 : decode cX5_buyGas 56 = .ok (.imul, 1) := by decide +kernel
theorem dX5_buyGas_57 : decode cX5_buyGas 57 = .ok (.iadd, 1) := by decide +kernel
theorem dX5_buyGas_58 : decode cX5_buyGas 58 = .ok (.invokestatic 160, 3) := by decide +kernel
theorem dX5_buyGas_61 : decode cX5_buyGas 61 = .ok (.putfield 157, 3) := by decide +kernel
theorem dX5_buyGas_64 : decode cX5_buyGas 64 = .ok (.aload_n 3, 1) := by decide +kernel
theorem dX5_buyGas_65 : decode cX5_buyGas 65 = .ok (.getfield 157, 3) := by decide +kernel
theorem dX5_buyGas_68 : decode cX5_buyGas 68 = .ok (.ireturn, 1) := by decide +kernel
theorem dX5_washTowels_0 : decode cX5_washTowels 0 = .ok (.iload_n 1, 1) := by decide +kernel
theorem dX5_washTowels_1 : decode cX5_washTowels 1 = .ok (.iconst 1, 1) := by decide +kernel
theorem dX5_washTowels_2 : decode cX5_washTowels 2 = .ok (.if_icmp .lt 9, 3) := by decide +kernel
theorem dX5_washTowels_5 : decode cX5_washTowels 5 = .ok (.iload_n 1, 1) := by decide +kernel
theorem dX5_washTowels_6 : decode cX5_washTowels 6 = .ok (.bipush 20, 2) := by decide +kernel
theorem dX5_washTowels_8 : decode cX5_washTowels 8 = .ok (.if_icmp .le 6, 3) := by decide +kernel
theorem dX5_washTowels_11 : decode cX5_washTowels 11 = .ok (.bipush (-3), 2) := by decide +kernel
theorem dX5_washTowels_13 : decode cX5_washTowels 13 = .ok (.ireturn, 1) := by decide +kernel
theorem dX5_washTowels_14 : decode cX5_washTowels 14 = .ok (.aload_n 0, 1) := by decide +kernel
theorem dX5_washTowels_15 : decode cX5_washTowels 15 = .ok (.getfield 50, 3) := by decide +kernel
theorem dX5_washTowels_18 : decode cX5_washTowels 18 = .ok (.ifCond .ne 14, 3) := by decide +kernel
theorem dX5_washTowels_21 : decode cX5_washTowels 21 = .ok (.aload_n 0, 1) := by decide +kernel
theorem dX5_washTowels_22 : decode cX5_washTowels 22 = .ok (.getfield 10, 3) := by decide +kernel
theorem dX5_washTowels_25 : decode cX5_washTowels 25 = .ok (.bipush 13, 2) := by decide +kernel
theorem dX5_washTowels_27 : decode cX5_washTowels 27 = .ok (.iconst 0, 1) := by decide +kernel
theorem dX5_washTowels_28 : decode cX5_washTowels 28 = .ok (.invokevirtual 82, 3) := by decide +kernel
theorem dX5_washTowels_31 : decode cX5_washTowels 31 = .ok (.ireturn, 1) := by decide +kernel
theorem dX5_washTowels_32 : decode cX5_washTowels 32 = .ok (.iload_n 1, 1) := by decide +kernel
theorem dX5_washTowels_33 : decode cX5_washTowels 33 = .ok (.aload_n 0, 1) := by decide +kernel
theorem dX5_washTowels_34 : decode cX5_washTowels 34 = .ok (.getfield 50, 3) := by decide +kernel
theorem dX5_washTowels_37 : decode cX5_washTowels 37 = .ok (.invokestatic 160, 3) := by decide +kernel
theorem dX5_washTowels_40 : decode cX5_washTowels 40 = .ok (.istore_n 2, 1) := by decide +kernel
theorem dX5_washTowels_41 : decode cX5_washTowels 41 = .ok (.aload_n 0, 1) := by decide +kernel
theorem dX5_washTowels_42 : decode cX5_washTowels 42 = .ok (.iload_n 2, 1) := by decide +kernel
theorem dX5_washTowels_43 : decode cX5_washTowels 43 = .ok (.invokevirtual 112, 3) := by decide +kernel
theorem dX5_washTowels_46 : decode cX5_washTowels 46 = .ok (.ifCond .eq 5, 3) := by decide +kernel
theorem dX5_washTowels_49 : decode cX5_washTowels 49 = .ok (.iconst (-1), 1) := by decide +kernel
theorem dX5_washTowels_50 : decode cX5_washTowels 50 = .ok (.ireturn, 1) := by decide +kernel
theorem dX5_washTowels_51 : decode cX5_washTowels 51 = .ok (.aload_n 0, 1) := by decide +kernel
theorem dX5_washTowels_52 : decode cX5_washTowels 52 = .ok (.dup, 1) := by decide +kernel
theorem dX5_washTowels_53 : decode cX5_washTowels 53 = .ok (.getfield 62, 3) := by decide +kernel
theorem dX5_washTowels_56 : decode cX5_washTowels 56 = .ok (.iload_n 2, 1) := by decide +kernel
theorem dX5_washTowels_57 : decode cX5_washTowels 57 = .ok (.isub, 1) := by decide +kernel
theorem dX5_washTowels_58 : decode cX5_washTowels 58 = .ok (.putfield 62, 3) := by decide +kernel
theorem dX5_washTowels_61 : decode cX5_washTowels 61 = .ok (.aload_n 0, 1) := by decide +kernel
theorem dX5_washTowels_62 : decode cX5_washTowels 62 = .ok (.dup, 1) := by decide +kernel
theorem dX5_washTowels_63 : decode cX5_washTowels 63 = .ok (.getfield 50, 3) := by decide +kernel
theorem dX5_washTowels_66 : decode cX5_washTowels 66 = .ok (.iload_n 2, 1) := by decide +kernel
theorem dX5_washTowels_67 : decode cX5_washTowels 67 = .ok (.isub, 1) := by decide +kernel
theorem dX5_washTowels_68 : decode cX5_washTowels 68 = .ok (.putfield 50, 3) := by decide +kernel
theorem dX5_washTowels_71 : decode cX5_washTowels 71 = .ok (.aload_n 0, 1) := by decide +kernel
theorem dX5_washTowels_72 : decode cX5_washTowels 72 = .ok (.dup, 1) := by decide +kernel
theorem dX5_washTowels_73 : decode cX5_washTowels 73 = .ok (.getfield 47, 3) := by decide +kernel
theorem dX5_washTowels_76 : decode cX5_washTowels 76 = .ok (.iload_n 2, 1) := by decide +kernel
theorem dX5_washTowels_77 : decode cX5_washTowels 77 = .ok (.iadd, 1) := by decide +kernel
theorem dX5_washTowels_78 : decode cX5_washTowels 78 = .ok (.putfield 47, 3) := by decide +kernel
theorem dX5_washTowels_81 : decode cX5_washTowels 81 = .ok (.iload_n 2, 1) := by decide +kernel
theorem dX5_washTowels_82 : decode cX5_washTowels 82 = .ok (.ireturn, 1) := by decide +kernel
theorem dX5_buySoap_0 : decode cX5_buySoap 0 = .ok (.iload_n 1, 1) := by decide +kernel
theorem dX5_buySoap_1 : decode cX5_buySoap 1 = .ok (.iconst 1, 1) := by decide +kernel
theorem dX5_buySoap_2 : decode cX5_buySoap 2 = .ok (.if_icmp .lt 9, 3) := by decide +kernel
theorem dX5_buySoap_5 : decode cX5_buySoap 5 = .ok (.iload_n 1, 1) := by decide +kernel
theorem dX5_buySoap_6 : decode cX5_buySoap 6 = .ok (.bipush 20, 2) := by decide +kernel
theorem dX5_buySoap_8 : decode cX5_buySoap 8 = .ok (.if_icmp .le 6, 3) := by decide +kernel
theorem dX5_buySoap_11 : decode cX5_buySoap 11 = .ok (.bipush (-3), 2) := by decide +kernel
theorem dX5_buySoap_13 : decode cX5_buySoap 13 = .ok (.ireturn, 1) := by decide +kernel
theorem dX5_buySoap_14 : decode cX5_buySoap 14 = .ok (.iload_n 1, 1) := by decide +kernel
theorem dX5_buySoap_15 : decode cX5_buySoap 15 = .ok (.bipush 99, 2) := by decide +kernel
theorem dX5_buySoap_17 : decode cX5_buySoap 17 = .ok (.aload_n 0, 1) := by decide +kernel
theorem dX5_buySoap_18 : decode cX5_buySoap 18 = .ok (.getfield 59, 3) := by decide +kernel
theorem dX5_buySoap_21 : decode cX5_buySoap 21 = .ok (.isub, 1) := by decide +kernel
theorem dX5_buySoap_22 : decode cX5_buySoap 22 = .ok (.invokestatic 160, 3) := by decide +kernel
theorem dX5_buySoap_25 : decode cX5_buySoap 25 = .ok (.istore_n 2, 1) := by decide +kernel
theorem dX5_buySoap_26 : decode cX5_buySoap 26 = .ok (.aload_n 0, 1) := by decide +kernel
theorem dX5_buySoap_27 : decode cX5_buySoap 27 = .ok (.iload_n 2, 1) := by decide +kernel
theorem dX5_buySoap_28 : decode cX5_buySoap 28 = .ok (.invokevirtual 112, 3) := by decide +kernel
theorem dX5_buySoap_31 : decode cX5_buySoap 31 = .ok (.ifCond .eq 5, 3) := by decide +kernel
theorem dX5_buySoap_34 : decode cX5_buySoap 34 = .ok (.iconst (-1), 1) := by decide +kernel
theorem dX5_buySoap_35 : decode cX5_buySoap 35 = .ok (.ireturn, 1) := by decide +kernel
theorem dX5_buySoap_36 : decode cX5_buySoap 36 = .ok (.aload_n 0, 1) := by decide +kernel
theorem dX5_buySoap_37 : decode cX5_buySoap 37 = .ok (.dup, 1) := by decide +kernel
theorem dX5_buySoap_38 : decode cX5_buySoap 38 = .ok (.getfield 62, 3) := by decide +kernel
theorem dX5_buySoap_41 : decode cX5_buySoap 41 = .ok (.iload_n 2, 1) := by decide +kernel
theorem dX5_buySoap_42 : decode cX5_buySoap 42 = .ok (.isub, 1) := by decide +kernel
theorem dX5_buySoap_43 : decode cX5_buySoap 43 = .ok (.putfield 62, 3) := by decide +kernel
theorem dX5_buySoap_46 : decode cX5_buySoap 46 = .ok (.aload_n 0, 1) := by decide +kernel
theorem dX5_buySoap_47 : decode cX5_buySoap 47 = .ok (.dup, 1) := by decide +kernel
theorem dX5_buySoap_48 : decode cX5_buySoap 48 = .ok (.getfield 59, 3) := by decide +kernel
theorem dX5_buySoap_51 : decode cX5_buySoap 51 = .ok (.iload_n 2, 1) := by decide +kernel
theorem dX5_buySoap_52 : decode cX5_buySoap 52 = .ok (.iadd, 1) := by decide +kernel
theorem dX5_buySoap_53 : decode cX5_buySoap 53 = .ok (.putfield 59, 3) := by decide +kernel
theorem dX5_buySoap_56 : decode cX5_buySoap 56 = .ok (.aload_n 0, 1) := by decide +kernel
theorem dX5_buySoap_57 : decode cX5_buySoap 57 = .ok (.getfield 59, 3) := by decide +kernel
theorem dX5_buySoap_60 : decode cX5_buySoap 60 = .ok (.ireturn, 1) := by decide +kernel
theorem dX5_letHoursGo_0 : decode cX5_letHoursGo 0 = .ok (.iload_n 1, 1) := by decide +kernel
theorem dX5_letHoursGo_1 : decode cX5_letHoursGo 1 = .ok (.iconst 1, 1) := by decide +kernel
theorem dX5_letHoursGo_2 : decode cX5_letHoursGo 2 = .ok (.if_icmp .lt 9, 3) := by decide +kernel
theorem dX5_letHoursGo_5 : decode cX5_letHoursGo 5 = .ok (.iload_n 1, 1) := by decide +kernel
theorem dX5_letHoursGo_6 : decode cX5_letHoursGo 6 = .ok (.bipush 48, 2) := by decide +kernel
theorem dX5_letHoursGo_8 : decode cX5_letHoursGo 8 = .ok (.if_icmp .le 6, 3) := by decide +kernel
theorem dX5_letHoursGo_11 : decode cX5_letHoursGo 11 = .ok (.bipush (-3), 2) := by decide +kernel
theorem dX5_letHoursGo_13 : decode cX5_letHoursGo 13 = .ok (.ireturn, 1) := by decide +kernel
theorem dX5_letHoursGo_14 : decode cX5_letHoursGo 14 = .ok (.aload_n 0, 1) := by decide +kernel
theorem dX5_letHoursGo_15 : decode cX5_letHoursGo 15 = .ok (.getfield 56, 3) := by decide +kernel
theorem dX5_letHoursGo_18 : decode cX5_letHoursGo 18 = .ok (.istore_n 2, 1) := by decide +kernel
theorem dX5_letHoursGo_19 : decode cX5_letHoursGo 19 = .ok (.iconst 0, 1) := by decide +kernel
theorem dX5_letHoursGo_20 : decode cX5_letHoursGo 20 = .ok (.istore_n 3, 1) := by decide +kernel
theorem dX5_letHoursGo_21 : decode cX5_letHoursGo 21 = .ok (.iload_n 3, 1) := by decide +kernel
theorem dX5_letHoursGo_22 : decode cX5_letHoursGo 22 = .ok (.iload_n 1, 1) := by decide +kernel
theorem dX5_letHoursGo_23 : decode cX5_letHoursGo 23 = .ok (.if_icmp .ge 47, 3) := by decide +kernel
theorem dX5_letHoursGo_26 : decode cX5_letHoursGo 26 = .ok (.aload_n 0, 1) := by decide +kernel
theorem dX5_letHoursGo_27 : decode cX5_letHoursGo 27 = .ok (.dup, 1) := by decide +kernel
theorem dX5_letHoursGo_28 : decode cX5_letHoursGo 28 = .ok (.getfield 44, 3) := by decide +kernel
theorem dX5_letHoursGo_31 : decode cX5_letHoursGo 31 = .ok (.iconst 1, 1) := by decide +kernel
theorem dX5_letHoursGo_32 : decode cX5_letHoursGo 32 = .ok (.iadd, 1) := by decide +kernel
theorem dX5_letHoursGo_33 : decode cX5_letHoursGo 33 = .ok (.putfield 44, 3) := by decide +kernel
theorem dX5_letHoursGo_36 : decode cX5_letHoursGo 36 = .ok (.iconst 0, 1) := by decide +kernel
theorem dX5_letHoursGo_37 : decode cX5_letHoursGo 37 = .ok (.istore 4, 2) := by decide +kernel
theorem dX5_letHoursGo_39 : decode cX5_letHoursGo 39 = .ok (.iload 4, 2) := by decide +kernel
theorem dX5_letHoursGo_41 : decode cX5_letHoursGo 41 = .ok (.aload_n 0, 1) := by decide +kernel
theorem dX5_letHoursGo_42 : decode cX5_letHoursGo 42 = .ok (.getfield 38, 3) := by decide +kernel
theorem dX5_letHoursGo_45 : decode cX5_letHoursGo 45 = .ok (.if_icmp .ge 19, 3) := by decide +kernel
theorem dX5_letHoursGo_48 : decode cX5_letHoursGo 48 = .ok (.aload_n 0, 1) := by decide +kernel
theorem dX5_letHoursGo_49 : decode cX5_letHoursGo 49 = .ok (.aload_n 0, 1) := by decide +kernel
theorem dX5_letHoursGo_50 : decode cX5_letHoursGo 50 = .ok (.iload 4, 2) := by decide +kernel
theorem dX5_letHoursGo_52 : decode cX5_letHoursGo 52 = .ok (.invokevirtual 125, 3) := by decide +kernel
theorem dX5_letHoursGo_55 : decode cX5_letHoursGo 55 = .ok (.invokevirtual 165, 3) := by decide +kernel
theorem dX5_letHoursGo_58 : decode cX5_letHoursGo 58 = .ok (.iinc 4 1, 3) := by decide +kernel
theorem dX5_letHoursGo_61 : decode cX5_letHoursGo 61 = .ok (.goto (-22), 3) := by decide +kernel
theorem dX5_letHoursGo_64 : decode cX5_letHoursGo 64 = .ok (.iinc 3 1, 3) := by decide +kernel
theorem dX5_letHoursGo_67 : decode cX5_letHoursGo 67 = .ok (.goto (-46), 3) := by decide +kernel
theorem dX5_letHoursGo_70 : decode cX5_letHoursGo 70 = .ok (.aload_n 0, 1) := by decide +kernel
theorem dX5_letHoursGo_71 : decode cX5_letHoursGo 71 = .ok (.getfield 56, 3) := by decide +kernel
theorem dX5_letHoursGo_74 : decode cX5_letHoursGo 74 = .ok (.iload_n 2, 1) := by decide +kernel
theorem dX5_letHoursGo_75 : decode cX5_letHoursGo 75 = .ok (.isub, 1) := by decide +kernel
theorem dX5_letHoursGo_76 : decode cX5_letHoursGo 76 = .ok (.ireturn, 1) := by decide +kernel
theorem dX5_letHourGoIn_0 : decode cX5_letHourGoIn 0 = .ok (.aload_n 1, 1) := by decide +kernel
theorem dX5_letHourGoIn_1 : decode cX5_letHourGoIn 1 = .ok (.ifnonnull 7, 3) := by decide +kernel
theorem dX5_letHourGoIn_4 : decode cX5_letHourGoIn 4 = .ok (.aconst_null, 1) := by decide +kernel
theorem dX5_letHourGoIn_5 : decode cX5_letHourGoIn 5 = .ok (.goto 11, 3) := by decide +kernel
theorem dX5_letHourGoIn_8 : decode cX5_letHourGoIn 8 = .ok (.aload_n 0, 1) := by decide +kernel
theorem dX5_letHourGoIn_9 : decode cX5_letHourGoIn 9 = .ok (.aload_n 1, 1) := by decide +kernel
theorem dX5_letHourGoIn_10 : decode cX5_letHourGoIn 10 = .ok (.getfield 133, 3) := by decide +kernel
theorem dX5_letHourGoIn_13 : decode cX5_letHourGoIn 13 = .ok (.invokevirtual 92, 3) := by decide +kernel
theorem dX5_letHourGoIn_16 : decode cX5_letHourGoIn 16 = .ok (.astore_n 2, 1) := by decide +kernel
theorem dX5_letHourGoIn_17 : decode cX5_letHourGoIn 17 = .ok (.aload_n 2, 1) := by decide +kernel
theorem dX5_letHourGoIn_18 : decode cX5_letHourGoIn 18 = .ok (.ifnonnull 4, 3) := by decide +kernel
theorem dX5_letHourGoIn_21 : decode cX5_letHourGoIn 21 = .ok (.return_, 1) := by decide +kernel
theorem dX5_letHourGoIn_22 : decode cX5_letHourGoIn 22 = .ok (.aload_n 2, 1) := by decide +kernel
theorem dX5_letHourGoIn_23 : decode cX5_letHourGoIn 23 = .ok (.iconst 5, 1) := by decide +kernel
theorem dX5_letHourGoIn_24 : decode cX5_letHourGoIn 24 = .ok (.aload_n 2, 1) := by decide +kernel
theorem dX5_letHourGoIn_25 : decode cX5_letHourGoIn 25 = .ok (.invokevirtual 102, 3) := by decide +kernel
theorem dX5_letHourGoIn_28 : decode cX5_letHourGoIn 28 = .ok (.imul, 1) := by decide +kernel
theorem dX5_letHourGoIn_29 : decode cX5_letHourGoIn 29 = .ok (.invokevirtual 168, 3) := by decide +kernel
theorem dX5_letHourGoIn_32 : decode cX5_letHourGoIn 32 = .ok (.aload_n 2, 1) := by decide +kernel
theorem dX5_letHourGoIn_33 : decode cX5_letHourGoIn 33 = .ok (.getfield 171, 3) := by decide +kernel
theorem dX5_letHourGoIn_36 : decode cX5_letHourGoIn 36 = .ok (.ifCond .eq 20, 3) := by decide +kernel
theorem dX5_letHourGoIn_39 : decode cX5_letHourGoIn 39 = .ok (.aload_n 2, 1) := by decide +kernel
theorem dX5_letHourGoIn_40 : decode cX5_letHourGoIn 40 = .ok (.bipush 20, 2) := by decide +kernel
theorem dX5_letHourGoIn_42 : decode cX5_letHourGoIn 42 = .ok (.bipush 10, 2) := by decide +kernel
theorem dX5_letHourGoIn_44 : decode cX5_letHourGoIn 44 = .ok (.aload_n 1, 1) := by decide +kernel
theorem dX5_letHourGoIn_45 : decode cX5_letHourGoIn 45 = .ok (.getfield 89, 3) := by decide +kernel
theorem dX5_letHourGoIn_48 : decode cX5_letHourGoIn 48 = .ok (.imul, 1) := by decide +kernel
theorem dX5_letHourGoIn_49 : decode cX5_letHourGoIn 49 = .ok (.iadd, 1) := by decide +kernel
theorem dX5_letHourGoIn_50 : decode cX5_letHourGoIn 50 = .ok (.invokevirtual 175, 3) := by decide +kernel
theorem dX5_letHourGoIn_53 : decode cX5_letHourGoIn 53 = .ok (.goto 106, 3) := by decide +kernel
theorem dX5_letHourGoIn_56 : decode cX5_letHourGoIn 56 = .ok (.aload_n 2, 1) := by decide +kernel
theorem dX5_letHourGoIn_57 : decode cX5_letHourGoIn 57 = .ok (.getfield 109, 3) := by decide +kernel
theorem dX5_letHourGoIn_60 : decode cX5_letHourGoIn 60 = .ok (.aload_n 2, 1) := by decide +kernel
theorem dX5_letHourGoIn_61 : decode cX5_letHourGoIn 61 = .ok (.invokevirtual 178, 3) := by decide +kernel
theorem dX5_letHourGoIn_64 : decode cX5_letHourGoIn 64 = .ok (.if_icmp .ge 10, 3) := by decide +kernel
theorem dX5_letHourGoIn_67 : decode cX5_letHourGoIn 67 = .ok (.aload_n 2, 1) := by decide +kernel
theorem dX5_letHourGoIn_68 : decode cX5_letHourGoIn 68 = .ok (.invokevirtual 181, 3) := by decide +kernel
theorem dX5_letHourGoIn_71 : decode cX5_letHourGoIn 71 = .ok (.goto 88, 3) := by decide +kernel
theorem dX5_letHourGoIn_74 : decode cX5_letHourGoIn 74 = .ok (.aload_n 2, 1) := by decide +kernel
theorem dX5_letHourGoIn_75 : decode cX5_letHourGoIn 75 = .ok (.getfield 184, 3) := by decide +kernel
theorem dX5_letHourGoIn_78 : decode cX5_letHourGoIn 78 = .ok (.bipush 38, 2) := by decide +kernel
theorem dX5_letHourGoIn_80 : decode cX5_letHourGoIn 80 = .ok (.if_icmp .lt 26, 3) := by decide +kernel
theorem dX5_letHourGoIn_83 : decode cX5_letHourGoIn 83 = .ok (.aload_n 1, 1) := by decide +kernel
theorem dX5_letHourGoIn_84 : decode cX5_letHourGoIn 84 = .ok (.getfield 139, 3) := by decide +kernel
theorem dX5_letHourGoIn_87 : decode cX5_letHourGoIn 87 = .ok (.ifCond .le 19, 3) := by decide +kernel
theorem dX5_letHourGoIn_90 : decode cX5_letHourGoIn 90 = .ok (.aload_n 0, 1) := by decide +kernel
theorem dX5_letHourGoIn_91 : decode cX5_letHourGoIn 91 = .ok (.getfield 59, 3) := by decide +kernel
theorem dX5_letHourGoIn_94 : decode cX5_letHourGoIn 94 = .ok (.ifCond .le 12, 3) := by decide +kernel
theorem dX5_letHourGoIn_97 : decode cX5_letHourGoIn 97 = .ok (.aload_n 0, 1) := by decide +kernel
theorem dX5_letHourGoIn_98 : decode cX5_letHourGoIn 98 = .ok (.aload_n 1, 1) := by decide +kernel
theorem dX5_letHourGoIn_99 : decode cX5_letHourGoIn 99 = .ok (.aload_n 2, 1) := by decide +kernel
theorem dX5_letHourGoIn_100 : decode cX5_letHourGoIn 100 = .ok (.invokevirtual 187, 3) := by decide +kernel
theorem dX5_letHourGoIn_103 : decode cX5_letHourGoIn 103 = .ok (.goto 56, 3) := by decide +kernel
theorem dX5_letHourGoIn_106 : decode cX5_letHourGoIn 106 = .ok (.aload_n 2, 1) := by decide +kernel
theorem dX5_letHourGoIn_107 : decode cX5_letHourGoIn 107 = .ok (.getfield 184, 3) := by decide +kernel
theorem dX5_letHourGoIn_110 : decode cX5_letHourGoIn 110 = .ok (.bipush 60, 2) := by decide +kernel
theorem dX5_letHourGoIn_112 : decode cX5_letHourGoIn 112 = .ok (.if_icmp .ge 32, 3) := by decide +kernel
theorem dX5_letHourGoIn_115 : decode cX5_letHourGoIn 115 = .ok (.aload_n 0, 1) := by decide +kernel
theorem dX5_letHourGoIn_116 : decode cX5_letHourGoIn 116 = .ok (.aload_n 1, 1) := by decide +kernel
theorem dX5_letHourGoIn_117 : decode cX5_letHourGoIn 117 = .ok (.getfield 154, 3) := by decide +kernel
theorem dX5_letHourGoIn_120 : decode cX5_letHourGoIn 120 = .ok (.invokevirtual 191, 3) := by decide +kernel
theorem dX5_letHourGoIn_123 : decode cX5_letHourGoIn 123 = .ok (.ifCond .eq 21, 3) := by decide +kernel
theorem dX5_letHourGoIn_126 : decode cX5_letHourGoIn 126 = .ok (.aload_n 2, 1) := by decide +kernel
theorem dX5_letHourGoIn_127 : decode cX5_letHourGoIn 127 = .ok (.aload_n 2, 1) := by decide +kernel
theorem dX5_letHourGoIn_128 : decode cX5_letHourGoIn 128 = .ok (.getfield 86, 3) := by decide +kernel
theorem dX5_letHourGoIn_131 : decode cX5_letHourGoIn 131 = .ok (.aload_n 2, 1) := by decide +kernel
theorem dX5_letHourGoIn_132 : decode cX5_letHourGoIn 132 = .ok (.getfield 184, 3) := by decide +kernel
theorem dX5_letHourGoIn_135 : decode cX5_letHourGoIn 135 = .ok (.invokestatic 194, 3) := by decide +kernel
theorem dX5_letHourGoIn_138 : decode cX5_letHourGoIn 138 = .ok (.putfield 184, 3) := by decide +kernel
theorem dX5_letHourGoIn_141 : decode cX5_letHourGoIn 141 = .ok (.goto 18, 3) := by decide +kernel
theorem dX5_letHourGoIn_144 : decode cX5_letHourGoIn 144 = .ok (.aload_n 2, 1) := by decide +kernel
theorem dX5_letHourGoIn_145 : decode cX5_letHourGoIn 145 = .ok (.bipush 10, 2) := by decide +kernel
theorem dX5_letHourGoIn_147 : decode cX5_letHourGoIn 147 = .ok (.aload_n 2, 1) := by decide +kernel
theorem dX5_letHourGoIn_148 : decode cX5_letHourGoIn 148 = .ok (.getfield 184, 3) := by decide +kernel
theorem dX5_letHourGoIn_151 : decode cX5_letHourGoIn 151 = .ok (.iconst 1, 1) := by decide +kernel
theorem dX5_letHourGoIn_152 : decode cX5_letHourGoIn 152 = .ok (.isub, 1) := by decide +kernel
theorem dX5_letHourGoIn_153 : decode cX5_letHourGoIn 153 = .ok (.invokestatic 197, 3) := by decide +kernel
theorem dX5_letHourGoIn_156 : decode cX5_letHourGoIn 156 = .ok (.putfield 184, 3) := by decide +kernel
theorem dX5_letHourGoIn_159 : decode cX5_letHourGoIn 159 = .ok (.return_, 1) := by decide +kernel
theorem dX5_bathe_0 : decode cX5_bathe 0 = .ok (.aload_n 0, 1) := by decide +kernel
theorem dX5_bathe_1 : decode cX5_bathe 1 = .ok (.dup, 1) := by decide +kernel
theorem dX5_bathe_2 : decode cX5_bathe 2 = .ok (.getfield 59, 3) := by decide +kernel
theorem dX5_bathe_5 : decode cX5_bathe 5 = .ok (.iconst 1, 1) := by decide +kernel
theorem dX5_bathe_6 : decode cX5_bathe 6 = .ok (.isub, 1) := by decide +kernel
theorem dX5_bathe_7 : decode cX5_bathe 7 = .ok (.putfield 59, 3) := by decide +kernel
theorem dX5_bathe_10 : decode cX5_bathe 10 = .ok (.aload_n 0, 1) := by decide +kernel
theorem dX5_bathe_11 : decode cX5_bathe 11 = .ok (.dup, 1) := by decide +kernel
theorem dX5_bathe_12 : decode cX5_bathe 12 = .ok (.getfield 62, 3) := by decide +kernel
theorem dX5_bathe_15 : decode cX5_bathe 15 = .ok (.aload_n 2, 1) := by decide +kernel
theorem dX5_bathe_16 : decode cX5_bathe 16 = .ok (.getfield 184, 3) := by decide +kernel
theorem dX5_bathe_19 : decode cX5_bathe 19 = .ok (.bipush 45, 2) := by decide +kernel
theorem dX5_bathe_21 : decode cX5_bathe 21 = .ok (.if_icmp .lt 7, 3) := by decide +kernel
theorem dX5_bathe_24 : decode cX5_bathe 24 = .ok (.iconst 4, 1) := by decide +kernel
theorem dX5_bathe_25 : decode cX5_bathe 25 = .ok (.goto 4, 3) := by decide +kernel
theorem dX5_bathe_28 : decode cX5_bathe 28 = .ok (.iconst 3, 1) := by decide +kernel
theorem dX5_bathe_29 : decode cX5_bathe 29 = .ok (.iadd, 1) := by decide +kernel
theorem dX5_bathe_30 : decode cX5_bathe 30 = .ok (.putfield 62, 3) := by decide +kernel
theorem dX5_bathe_33 : decode cX5_bathe 33 = .ok (.aload_n 0, 1) := by decide +kernel
theorem dX5_bathe_34 : decode cX5_bathe 34 = .ok (.dup, 1) := by decide +kernel
theorem dX5_bathe_35 : decode cX5_bathe 35 = .ok (.getfield 50, 3) := by decide +kernel
theorem dX5_bathe_38 : decode cX5_bathe 38 = .ok (.iconst 1, 1) := by decide +kernel
theorem dX5_bathe_39 : decode cX5_bathe 39 = .ok (.iadd, 1) := by decide +kernel
theorem dX5_bathe_40 : decode cX5_bathe 40 = .ok (.putfield 50, 3) := by decide +kernel
theorem dX5_bathe_43 : decode cX5_bathe 43 = .ok (.aload_n 0, 1) := by decide +kernel
theorem dX5_bathe_44 : decode cX5_bathe 44 = .ok (.dup, 1) := by decide +kernel
theorem dX5_bathe_45 : decode cX5_bathe 45 = .ok (.getfield 56, 3) := by decide +kernel
theorem dX5_bathe_48 : decode cX5_bathe 48 = .ok (.iconst 1, 1) := by decide +kernel
theorem dX5_bathe_49 : decode cX5_bathe 49 = .ok (.iadd, 1) := by decide +kernel
theorem dX5_bathe_50 : decode cX5_bathe 50 = .ok (.putfield 56, 3) := by decide +kernel
theorem dX5_bathe_53 : decode cX5_bathe 53 = .ok (.aload_n 1, 1) := by decide +kernel
theorem dX5_bathe_54 : decode cX5_bathe 54 = .ok (.invokevirtual 200, 3) := by decide +kernel
theorem dX5_bathe_57 : decode cX5_bathe 57 = .ok (.aload_n 1, 1) := by decide +kernel
theorem dX5_bathe_58 : decode cX5_bathe 58 = .ok (.dup, 1) := by decide +kernel
theorem dX5_bathe_59 : decode cX5_bathe 59 = .ok (.getfield 203, 3) := by decide +kernel
theorem dX5_bathe_62 : decode cX5_bathe 62 = .ok (.iconst 1, 1) := by decide +kernel
theorem dX5_bathe_63 : decode cX5_bathe 63 = .ok (.iadd, 1) := by decide +kernel
theorem dX5_bathe_64 : decode cX5_bathe 64 = .ok (.putfield 203, 3) := by decide +kernel
theorem dX5_bathe_67 : decode cX5_bathe 67 = .ok (.aload_n 2, 1) := by decide +kernel
theorem dX5_bathe_68 : decode cX5_bathe 68 = .ok (.iconst 1, 1) := by decide +kernel
theorem dX5_bathe_69 : decode cX5_bathe 69 = .ok (.putfield 171, 3) := by decide +kernel
theorem dX5_bathe_72 : decode cX5_bathe 72 = .ok (.aload_n 2, 1) := by decide +kernel
theorem dX5_bathe_73 : decode cX5_bathe 73 = .ok (.dup, 1) := by decide +kernel
theorem dX5_bathe_74 : decode cX5_bathe 74 = .ok (.getfield 122, 3) := by decide +kernel
theorem dX5_bathe_77 : decode cX5_bathe 77 = .ok (.iconst 1, 1) := by decide +kernel
theorem dX5_bathe_78 : decode cX5_bathe 78 = .ok (.iadd, 1) := by decide +kernel
theorem dX5_bathe_79 : decode cX5_bathe 79 = .ok (.putfield 122, 3) := by decide +kernel
theorem dX5_bathe_82 : decode cX5_bathe 82 = .ok (.aload_n 2, 1) := by decide +kernel
theorem dX5_bathe_83 : decode cX5_bathe 83 = .ok (.getfield 122, 3) := by decide +kernel
theorem dX5_bathe_86 : decode cX5_bathe 86 = .ok (.iconst 4, 1) := by decide +kernel
theorem dX5_bathe_87 : decode cX5_bathe 87 = .ok (.irem, 1) := by decide +kernel
theorem dX5_bathe_88 : decode cX5_bathe 88 = .ok (.ifCond .ne 26, 3) := by decide +kernel
theorem dX5_bathe_91 : decode cX5_bathe 91 = .ok (.aload_n 2, 1) := by decide +kernel
theorem dX5_bathe_92 : decode cX5_bathe 92 = .ok (.dup, 1) := by decide +kernel
theorem dX5_bathe_93 : decode cX5_bathe 93 = .ok (.getfield 99, 3) := by decide +kernel
theorem dX5_bathe_96 : decode cX5_bathe 96 = .ok (.iconst 1, 1) := by decide +kernel
theorem dX5_bathe_97 : decode cX5_bathe 97 = .ok (.aload_n 1, 1) := by decide +kernel
theorem dX5_bathe_98 : decode cX5_bathe 98 = .ok (.getfield 133, 3) := by decide +kernel
theorem dX5_bathe_101 : decode cX5_bathe 101 = .ok (.aload_n 2, 1) := by decide +kernel
theorem dX5_bathe_102 : decode cX5_bathe 102 = .ok (.getfield 122, 3) := by decide +kernel
theorem dX5_bathe_105 : decode cX5_bathe 105 = .ok (.iadd, 1) := by decide +kernel
theorem dX5_bathe_106 : decode cX5_bathe 106 = .ok (.bipush 8, 2) := by decide +kernel
theorem dX5_bathe_108 : decode cX5_bathe 108 = .ok (.irem, 1) := by decide +kernel
theorem dX5_bathe_109 : decode cX5_bathe 109 = .ok (.ishl, 1) := by decide +kernel
theorem dX5_bathe_110 : decode cX5_bathe 110 = .ok (.ior, 1) := by decide +kernel
theorem dX5_bathe_111 : decode cX5_bathe 111 = .ok (.putfield 99, 3) := by decide +kernel
theorem dX5_bathe_114 : decode cX5_bathe 114 = .ok (.return_, 1) := by decide +kernel
theorem dX5_burnsGas_0 : decode cX5_burnsGas 0 = .ok (.aload_n 0, 1) := by decide +kernel
theorem dX5_burnsGas_1 : decode cX5_burnsGas 1 = .ok (.iload_n 1, 1) := by decide +kernel
theorem dX5_burnsGas_2 : decode cX5_burnsGas 2 = .ok (.invokevirtual 149, 3) := by decide +kernel
theorem dX5_burnsGas_5 : decode cX5_burnsGas 5 = .ok (.astore_n 2, 1) := by decide +kernel
theorem dX5_burnsGas_6 : decode cX5_burnsGas 6 = .ok (.aload_n 2, 1) := by decide +kernel
theorem dX5_burnsGas_7 : decode cX5_burnsGas 7 = .ok (.ifnull 10, 3) := by decide +kernel
theorem dX5_burnsGas_10 : decode cX5_burnsGas 10 = .ok (.aload_n 2, 1) := by decide +kernel
theorem dX5_burnsGas_11 : decode cX5_burnsGas 11 = .ok (.getfield 157, 3) := by decide +kernel
theorem dX5_burnsGas_14 : decode cX5_burnsGas 14 = .ok (.ifCond .gt 5, 3) := by decide +kernel
theorem dX5_burnsGas_17 : decode cX5_burnsGas 17 = .ok (.iconst 0, 1) := by decide +kernel
theorem dX5_burnsGas_18 : decode cX5_burnsGas 18 = .ok (.ireturn, 1) := by decide +kernel
theorem dX5_burnsGas_19 : decode cX5_burnsGas 19 = .ok (.aload_n 2, 1) := by decide +kernel
theorem dX5_burnsGas_20 : decode cX5_burnsGas 20 = .ok (.dup, 1) := by decide +kernel
theorem dX5_burnsGas_21 : decode cX5_burnsGas 21 = .ok (.getfield 157, 3) := by decide +kernel
theorem dX5_burnsGas_24 : decode cX5_burnsGas 24 = .ok (.iconst 1, 1) := by decide +kernel
theorem dX5_burnsGas_25 : decode cX5_burnsGas 25 = .ok (.isub, 1) := by decide +kernel
theorem dX5_burnsGas_26 : decode cX5_burnsGas 26 = .ok (.putfield 157, 3) := by decide +kernel
theorem dX5_burnsGas_29 : decode cX5_burnsGas 29 = .ok (.iconst 1, 1) := by decide +kernel
theorem dX5_burnsGas_30 : decode cX5_burnsGas 30 = .ok (.ireturn, 1) := by decide +kernel
theorem dX5_told_0 : decode cX5_told 0 = .ok (.iload_n 1, 1) := by decide +kernel
theorem dX5_told_1 : decode cX5_told 1 = .ok (.tableswitch 131 0 13 #[71, 76, 131, 131, 81, 86, 91, 96, 101, 106, 111, 116, 121, 126], 71) := by decide +kernel
theorem dX5_told_72 : decode cX5_told 72 = .ok (.aload_n 0, 1) := by decide +kernel
theorem dX5_told_73 : decode cX5_told 73 = .ok (.getfield 44, 3) := by decide +kernel
theorem dX5_told_76 : decode cX5_told 76 = .ok (.ireturn, 1) := by decide +kernel
theorem dX5_told_77 : decode cX5_told 77 = .ok (.aload_n 0, 1) := by decide +kernel
theorem dX5_told_78 : decode cX5_told 78 = .ok (.getfield 34, 3) := by decide +kernel
theorem dX5_told_81 : decode cX5_told 81 = .ok (.ireturn, 1) := by decide +kernel
theorem dX5_told_82 : decode cX5_told 82 = .ok (.aload_n 0, 1) := by decide +kernel
theorem dX5_told_83 : decode cX5_told 83 = .ok (.getfield 38, 3) := by decide +kernel
theorem dX5_told_86 : decode cX5_told 86 = .ok (.ireturn, 1) := by decide +kernel
theorem dX5_told_87 : decode cX5_told 87 = .ok (.aload_n 0, 1) := by decide +kernel
theorem dX5_told_88 : decode cX5_told 88 = .ok (.getfield 41, 3) := by decide +kernel
theorem dX5_told_91 : decode cX5_told 91 = .ok (.ireturn, 1) := by decide +kernel
theorem dX5_told_92 : decode cX5_told 92 = .ok (.aload_n 0, 1) := by decide +kernel
theorem dX5_told_93 : decode cX5_told 93 = .ok (.invokevirtual 204, 3) := by decide +kernel
theorem dX5_told_96 : decode cX5_told 96 = .ok (.ireturn, 1) := by decide +kernel
theorem dX5_told_97 : decode cX5_told 97 = .ok (.aload_n 0, 1) := by decide +kernel
theorem dX5_told_98 : decode cX5_told 98 = .ok (.getfield 47, 3) := by decide +kernel
theorem dX5_told_101 : decode cX5_told 101 = .ok (.ireturn, 1) := by decide +kernel
theorem dX5_told_102 : decode cX5_told 102 = .ok (.aload_n 0, 1) := by decide +kernel
theorem dX5_told_103 : decode cX5_told 103 = .ok (.getfield 50, 3) := by decide +kernel
theorem dX5_told_106 : decode cX5_told 106 = .ok (.ireturn, 1) := by decide +kernel
theorem dX5_told_107 : decode cX5_told 107 = .ok (.aload_n 0, 1) := by decide +kernel
theorem dX5_told_108 : decode cX5_told 108 = .ok (.invokevirtual 207, 3) := by decide +kernel
theorem dX5_told_111 : decode cX5_told 111 = .ok (.ireturn, 1) := by decide +kernel
theorem dX5_told_112 : decode cX5_told 112 = .ok (.aload_n 0, 1) := by decide +kernel
theorem dX5_told_113 : decode cX5_told 113 = .ok (.getfield 53, 3) := by decide +kernel
theorem dX5_told_116 : decode cX5_told 116 = .ok (.ireturn, 1) := by decide +kernel
theorem dX5_told_117 : decode cX5_told 117 = .ok (.aload_n 0, 1) := by decide +kernel
theorem dX5_told_118 : decode cX5_told 118 = .ok (.getfield 56, 3) := by decide +kernel
theorem dX5_told_121 : decode cX5_told 121 = .ok (.ireturn, 1) := by decide +kernel
theorem dX5_told_122 : decode cX5_told 122 = .ok (.aload_n 0, 1) := by decide +kernel
theorem dX5_told_123 : decode cX5_told 123 = .ok (.getfield 59, 3) := by decide +kernel
theorem dX5_told_126 : decode cX5_told 126 = .ok (.ireturn, 1) := by decide +kernel
theorem dX5_told_127 : decode cX5_told 127 = .ok (.aload_n 0, 1) := by decide +kernel
theorem dX5_told_128 : decode cX5_told 128 = .ok (.getfield 62, 3) := by decide +kernel
theorem dX5_told_131 : decode cX5_told 131 = .ok (.ireturn, 1) := by decide +kernel
theorem dX5_told_132 : decode cX5_told 132 = .ok (.aload_n 0, 1) := by decide +kernel
theorem dX5_told_133 : decode cX5_told 133 = .ok (.iload_n 1, 1) := by decide +kernel
theorem dX5_told_134 : decode cX5_told 134 = .ok (.invokevirtual 210, 3) := by decide +kernel
theorem dX5_told_137 : decode cX5_told 137 = .ok (.ireturn, 1) := by decide +kernel
theorem dX5_gasInAll_0 : decode cX5_gasInAll 0 = .ok (.iconst 0, 1) := by decide +kernel
theorem dX5_gasInAll_1 : decode cX5_gasInAll 1 = .ok (.istore_n 1, 1) := by decide +kernel
theorem dX5_gasInAll_2 : decode cX5_gasInAll 2 = .ok (.iconst 0, 1) := by decide +kernel
theorem dX5_gasInAll_3 : decode cX5_gasInAll 3 = .ok (.istore_n 2, 1) := by decide +kernel
theorem dX5_gasInAll_4 : decode cX5_gasInAll 4 = .ok (.iload_n 2, 1) := by decide +kernel
theorem dX5_gasInAll_5 : decode cX5_gasInAll 5 = .ok (.aload_n 0, 1) := by decide +kernel
theorem dX5_gasInAll_6 : decode cX5_gasInAll 6 = .ok (.getfield 41, 3) := by decide +kernel
theorem dX5_gasInAll_9 : decode cX5_gasInAll 9 = .ok (.if_icmp .ge 30, 3) := by decide +kernel
theorem dX5_gasInAll_12 : decode cX5_gasInAll 12 = .ok (.aload_n 0, 1) := by decide +kernel
theorem dX5_gasInAll_13 : decode cX5_gasInAll 13 = .ok (.iload_n 2, 1) := by decide +kernel
theorem dX5_gasInAll_14 : decode cX5_gasInAll 14 = .ok (.invokevirtual 149, 3) := by decide +kernel
theorem dX5_gasInAll_17 : decode cX5_gasInAll 17 = .ok (.astore_n 3, 1) := by decide +kernel
theorem dX5_gasInAll_18 : decode cX5_gasInAll 18 = .ok (.iload_n 1, 1) := by decide +kernel
theorem dX5_gasInAll_19 : decode cX5_gasInAll 19 = .ok (.aload_n 3, 1) := by decide +kernel
theorem dX5_gasInAll_20 : decode cX5_gasInAll 20 = .ok (.ifnonnull 7, 3) := by decide +kernel
theorem dX5_gasInAll_23 : decode cX5_gasInAll 23 = .ok (.iconst 0, 1) := by decide +kernel
theorem dX5_gasInAll_24 : decode cX5_gasInAll 24 = .ok (.goto 7, 3) := by decide +kernel
theorem dX5_gasInAll_27 : decode cX5_gasInAll 27 = .ok (.aload_n 3, 1) := by decide +kernel
theorem dX5_gasInAll_28 : decode cX5_gasInAll 28 = .ok (.getfield 157, 3) := by decide +kernel
theorem dX5_gasInAll_31 : decode cX5_gasInAll 31 = .ok (.iadd, 1) := by decide +kernel
theorem dX5_gasInAll_32 : decode cX5_gasInAll 32 = .ok (.istore_n 1, 1) := by decide +kernel
theorem dX5_gasInAll_33 : decode cX5_gasInAll 33 = .ok (.iinc 2 1, 3) := by decide +kernel
theorem dX5_gasInAll_36 : decode cX5_gasInAll 36 = .ok (.goto (-32), 3) := by decide +kernel
theorem dX5_gasInAll_39 : decode cX5_gasInAll 39 = .ok (.iload_n 1, 1) := by decide +kernel
theorem dX5_gasInAll_40 : decode cX5_gasInAll 40 = .ok (.ireturn, 1) := by decide +kernel
theorem dX5_waitingInAll_0 : decode cX5_waitingInAll 0 = .ok (.iconst 0, 1) := by decide +kernel
theorem dX5_waitingInAll_1 : decode cX5_waitingInAll 1 = .ok (.istore_n 1, 1) := by decide +kernel
theorem dX5_waitingInAll_2 : decode cX5_waitingInAll 2 = .ok (.iconst 0, 1) := by decide +kernel
theorem dX5_waitingInAll_3 : decode cX5_waitingInAll 3 = .ok (.istore_n 2, 1) := by decide +kernel
theorem dX5_waitingInAll_4 : decode cX5_waitingInAll 4 = .ok (.iload_n 2, 1) := by decide +kernel
theorem dX5_waitingInAll_5 : decode cX5_waitingInAll 5 = .ok (.aload_n 0, 1) := by decide +kernel
theorem dX5_waitingInAll_6 : decode cX5_waitingInAll 6 = .ok (.getfield 38, 3) := by decide +kernel
theorem dX5_waitingInAll_9 : decode cX5_waitingInAll 9 = .ok (.if_icmp .ge 30, 3) := by decide +kernel
theorem dX5_waitingInAll_12 : decode cX5_waitingInAll 12 = .ok (.aload_n 0, 1) := by decide +kernel
theorem dX5_waitingInAll_13 : decode cX5_waitingInAll 13 = .ok (.iload_n 2, 1) := by decide +kernel
theorem dX5_waitingInAll_14 : decode cX5_waitingInAll 14 = .ok (.invokevirtual 125, 3) := by decide +kernel
theorem dX5_waitingInAll_17 : decode cX5_waitingInAll 17 = .ok (.astore_n 3, 1) := by decide +kernel
theorem dX5_waitingInAll_18 : decode cX5_waitingInAll 18 = .ok (.iload_n 1, 1) := by decide +kernel
theorem dX5_waitingInAll_19 : decode cX5_waitingInAll 19 = .ok (.aload_n 3, 1) := by decide +kernel
theorem dX5_waitingInAll_20 : decode cX5_waitingInAll 20 = .ok (.ifnonnull 7, 3) := by decide +kernel
theorem dX5_waitingInAll_23 : decode cX5_waitingInAll 23 = .ok (.iconst 0, 1) := by decide +kernel
theorem dX5_waitingInAll_24 : decode cX5_waitingInAll 24 = .ok (.goto 7, 3) := by decide +kernel
theorem dX5_waitingInAll_27 : decode cX5_waitingInAll 27 = .ok (.aload_n 3, 1) := by decide +kernel
theorem dX5_waitingInAll_28 : decode cX5_waitingInAll 28 = .ok (.getfield 139, 3) := by decide +kernel
theorem dX5_waitingInAll_31 : decode cX5_waitingInAll 31 = .ok (.iadd, 1) := by decide +kernel
theorem dX5_waitingInAll_32 : decode cX5_waitingInAll 32 = .ok (.istore_n 1, 1) := by decide +kernel
theorem dX5_waitingInAll_33 : decode cX5_waitingInAll 33 = .ok (.iinc 2 1, 3) := by decide +kernel
theorem dX5_waitingInAll_36 : decode cX5_waitingInAll 36 = .ok (.goto (-32), 3) := by decide +kernel
theorem dX5_waitingInAll_39 : decode cX5_waitingInAll 39 = .ok (.iload_n 1, 1) := by decide +kernel
theorem dX5_waitingInAll_40 : decode cX5_waitingInAll 40 = .ok (.ireturn, 1) := by decide +kernel
theorem dX5_toldOfTubs_0 : decode cX5_toldOfTubs 0 = .ok (.iconst 0, 1) := by decide +kernel
theorem dX5_toldOfTubs_1 : decode cX5_toldOfTubs 1 = .ok (.istore_n 2, 1) := by decide +kernel
theorem dX5_toldOfTubs_2 : decode cX5_toldOfTubs 2 = .ok (.iconst 0, 1) := by decide +kernel
theorem dX5_toldOfTubs_3 : decode cX5_toldOfTubs 3 = .ok (.istore_n 3, 1) := by decide +kernel
theorem dX5_toldOfTubs_4 : decode cX5_toldOfTubs 4 = .ok (.iload_n 3, 1) := by decide +kernel
theorem dX5_toldOfTubs_5 : decode cX5_toldOfTubs 5 = .ok (.aload_n 0, 1) := by decide +kernel
theorem dX5_toldOfTubs_6 : decode cX5_toldOfTubs 6 = .ok (.getfield 34, 3) := by decide +kernel
theorem dX5_toldOfTubs_9 : decode cX5_toldOfTubs 9 = .ok (.if_icmp .ge 69, 3) := by decide +kernel
theorem dX5_toldOfTubs_12 : decode cX5_toldOfTubs 12 = .ok (.aload_n 0, 1) := by decide +kernel
theorem dX5_toldOfTubs_13 : decode cX5_toldOfTubs 13 = .ok (.iload_n 3, 1) := by decide +kernel
theorem dX5_toldOfTubs_14 : decode cX5_toldOfTubs 14 = .ok (.invokevirtual 92, 3) := by decide +kernel
theorem dX5_toldOfTubs_17 : decode cX5_toldOfTubs 17 = .ok (.astore 4, 2) := by decide +kernel
theorem dX5_toldOfTubs_19 : decode cX5_toldOfTubs 19 = .ok (.aload 4, 2) := by decide +kernel
theorem dX5_toldOfTubs_21 : decode cX5_toldOfTubs 21 = .ok (.ifnonnull 6, 3) := by decide +kernel
theorem dX5_toldOfTubs_24 : decode cX5_toldOfTubs 24 = .ok (.goto 48, 3) := by decide +kernel
theorem dX5_toldOfTubs_27 : decode cX5_toldOfTubs 27 = .ok (.iload_n 1, 1) := by decide +kernel
theorem dX5_toldOfTubs_28 : decode cX5_toldOfTubs 28 = .ok (.iconst 2, 1) := by decide +kernel
theorem dX5_toldOfTubs_29 : decode cX5_toldOfTubs 29 = .ok (.if_icmp .ne 22, 3) := by decide +kernel
theorem dX5_toldOfTubs_32 : decode cX5_toldOfTubs 32 = .ok (.iload_n 2, 1) := by decide +kernel
theorem dX5_toldOfTubs_33 : decode cX5_toldOfTubs 33 = .ok (.aload 4, 2) := by decide +kernel
theorem dX5_toldOfTubs_35 : decode cX5_toldOfTubs 35 = .ok (.getfield 115, 3) := by decide +kernel
theorem dX5_toldOfTubs_38 : decode cX5_toldOfTubs 38 = .ok (.ifCond .lt 7, 3) := by decide +kernel
theorem dX5_toldOfTubs_41 : decode cX5_toldOfTubs 41 = .ok (.iconst 1, 1) := by decide +kernel
theorem dX5_toldOfTubs_42 : decode cX5_toldOfTubs 42 = .ok (.goto 4, 3) := by decide +kernel
theorem dX5_toldOfTubs_45 : decode cX5_toldOfTubs 45 = .ok (.iconst 0, 1) := by decide +kernel
theorem dX5_toldOfTubs_46 : decode cX5_toldOfTubs 46 = .ok (.iadd, 1) := by decide +kernel
theorem dX5_toldOfTubs_47 : decode cX5_toldOfTubs 47 = .ok (.istore_n 2, 1) := by decide +kernel
theorem dX5_toldOfTubs_48 : decode cX5_toldOfTubs 48 = .ok (.goto 24, 3) := by decide +kernel
theorem dX5_toldOfTubs_51 : decode cX5_toldOfTubs 51 = .ok (.iload_n 2, 1) := by decide +kernel
theorem dX5_toldOfTubs_52 : decode cX5_toldOfTubs 52 = .ok (.iload_n 1, 1) := by decide +kernel
theorem dX5_toldOfTubs_53 : decode cX5_toldOfTubs 53 = .ok (.iconst 3, 1) := by decide +kernel
theorem dX5_toldOfTubs_54 : decode cX5_toldOfTubs 54 = .ok (.if_icmp .ne 11, 3) := by decide +kernel
theorem dX5_toldOfTubs_57 : decode cX5_toldOfTubs 57 = .ok (.aload 4, 2) := by decide +kernel
theorem dX5_toldOfTubs_59 : decode cX5_toldOfTubs 59 = .ok (.invokevirtual 102, 3) := by decide +kernel
theorem dX5_toldOfTubs_62 : decode cX5_toldOfTubs 62 = .ok (.goto 8, 3) := by decide +kernel
theorem dX5_toldOfTubs_65 : decode cX5_toldOfTubs 65 = .ok (.aload 4, 2) := by decide +kernel
theorem dX5_toldOfTubs_67 : decode cX5_toldOfTubs 67 = .ok (.getfield 109, 3) := by decide +kernel
theorem dX5_toldOfTubs_70 : decode cX5_toldOfTubs 70 = .ok (.iadd, 1) := by decide +kernel
theorem dX5_toldOfTubs_71 : decode cX5_toldOfTubs 71 = .ok (.istore_n 2, 1) := by decide +kernel
theorem dX5_toldOfTubs_72 : decode cX5_toldOfTubs 72 = .ok (.iinc 3 1, 3) := by decide +kernel
theorem dX5_toldOfTubs_75 : decode cX5_toldOfTubs 75 = .ok (.goto (-71), 3) := by decide +kernel
theorem dX5_toldOfTubs_78 : decode cX5_toldOfTubs 78 = .ok (.iload_n 2, 1) := by decide +kernel
theorem dX5_toldOfTubs_79 : decode cX5_toldOfTubs 79 = .ok (.ireturn, 1) := by decide +kernel
theorem dX6_init_0 : decode cX6_init 0 = .ok (.aload_n 0, 1) := by decide +kernel
theorem dX6_init_1 : decode cX6_init 1 = .ok (.invokespecial 1, 3) := by decide +kernel
theorem dX6_init_4 : decode cX6_init 4 = .ok (.aload_n 0, 1) := by decide +kernel
theorem dX6_init_5 : decode cX6_init 5 = .ok (.iconst 0, 1) := by decide +kernel
theorem dX6_init_6 : decode cX6_init 6 = .ok (.putfield 7, 3) := by decide +kernel
theorem dX6_init_9 : decode cX6_init 9 = .ok (.aload_n 0, 1) := by decide +kernel
theorem dX6_init_10 : decode cX6_init 10 = .ok (.iconst (-1), 1) := by decide +kernel
theorem dX6_init_11 : decode cX6_init 11 = .ok (.putfield 13, 3) := by decide +kernel
theorem dX6_init_14 : decode cX6_init 14 = .ok (.aload_n 0, 1) := by decide +kernel
theorem dX6_init_15 : decode cX6_init 15 = .ok (.iconst (-1), 1) := by decide +kernel
theorem dX6_init_16 : decode cX6_init 16 = .ok (.putfield 16, 3) := by decide +kernel
theorem dX6_init_19 : decode cX6_init 19 = .ok (.aload_n 0, 1) := by decide +kernel
theorem dX6_init_20 : decode cX6_init 20 = .ok (.iconst 0, 1) := by decide +kernel
theorem dX6_init_21 : decode cX6_init 21 = .ok (.putfield 19, 3) := by decide +kernel
theorem dX6_init_24 : decode cX6_init 24 = .ok (.aload_n 0, 1) := by decide +kernel
theorem dX6_init_25 : decode cX6_init 25 = .ok (.iconst 0, 1) := by decide +kernel
theorem dX6_init_26 : decode cX6_init 26 = .ok (.putfield 22, 3) := by decide +kernel
theorem dX6_init_29 : decode cX6_init 29 = .ok (.aload_n 0, 1) := by decide +kernel
theorem dX6_init_30 : decode cX6_init 30 = .ok (.bipush 6, 2) := by decide +kernel
theorem dX6_init_32 : decode cX6_init 32 = .ok (.newarray .int, 2) := by decide +kernel
theorem dX6_init_34 : decode cX6_init 34 = .ok (.putfield 25, 3) := by decide +kernel
theorem dX6_init_37 : decode cX6_init 37 = .ok (.return_, 1) := by decide +kernel
theorem dX6_copyFrom_0 : decode cX6_copyFrom 0 = .ok (.aload_n 0, 1) := by decide +kernel
theorem dX6_copyFrom_1 : decode cX6_copyFrom 1 = .ok (.aload_n 1, 1) := by decide +kernel
theorem dX6_copyFrom_2 : decode cX6_copyFrom 2 = .ok (.getfield 7, 3) := by decide +kernel
theorem dX6_copyFrom_5 : decode cX6_copyFrom 5 = .ok (.putfield 7, 3) := by decide +kernel
theorem dX6_copyFrom_8 : decode cX6_copyFrom 8 = .ok (.aload_n 0, 1) := by decide +kernel
theorem dX6_copyFrom_9 : decode cX6_copyFrom 9 = .ok (.aload_n 1, 1) := by decide +kernel
theorem dX6_copyFrom_10 : decode cX6_copyFrom 10 = .ok (.getfield 13, 3) := by decide +kernel
theorem dX6_copyFrom_13 : decode cX6_copyFrom 13 = .ok (.putfield 13, 3) := by decide +kernel
theorem dX6_copyFrom_16 : decode cX6_copyFrom 16 = .ok (.aload_n 0, 1) := by decide +kernel
theorem dX6_copyFrom_17 : decode cX6_copyFrom 17 = .ok (.aload_n 1, 1) := by decide +kernel
theorem dX6_copyFrom_18 : decode cX6_copyFrom 18 = .ok (.getfield 16, 3) := by decide +kernel
theorem dX6_copyFrom_21 : decode cX6_copyFrom 21 = .ok (.putfield 16, 3) := by decide +kernel
theorem dX6_copyFrom_24 : decode cX6_copyFrom 24 = .ok (.aload_n 0, 1) := by decide +kernel
theorem dX6_copyFrom_25 : decode cX6_copyFrom 25 = .ok (.aload_n 1, 1) := by decide +kernel
theorem dX6_copyFrom_26 : decode cX6_copyFrom 26 = .ok (.getfield 19, 3) := by decide +kernel
theorem dX6_copyFrom_29 : decode cX6_copyFrom 29 = .ok (.putfield 19, 3) := by decide +kernel
theorem dX6_copyFrom_32 : decode cX6_copyFrom 32 = .ok (.aload_n 0, 1) := by decide +kernel
theorem dX6_copyFrom_33 : decode cX6_copyFrom 33 = .ok (.aload_n 1, 1) := by decide +kernel
theorem dX6_copyFrom_34 : decode cX6_copyFrom 34 = .ok (.getfield 22, 3) := by decide +kernel
theorem dX6_copyFrom_37 : decode cX6_copyFrom 37 = .ok (.putfield 22, 3) := by decide +kernel
theorem dX6_copyFrom_40 : decode cX6_copyFrom 40 = .ok (.iconst 0, 1) := by decide +kernel
theorem dX6_copyFrom_41 : decode cX6_copyFrom 41 = .ok (.istore_n 2, 1) := by decide +kernel
theorem dX6_copyFrom_42 : decode cX6_copyFrom 42 = .ok (.iload_n 2, 1) := by decide +kernel
theorem dX6_copyFrom_43 : decode cX6_copyFrom 43 = .ok (.bipush 6, 2) := by decide +kernel
theorem dX6_copyFrom_45 : decode cX6_copyFrom 45 = .ok (.if_icmp .ge 21, 3) := by decide +kernel
theorem dX6_copyFrom_48 : decode cX6_copyFrom 48 = .ok (.aload_n 0, 1) := by decide +kernel
theorem dX6_copyFrom_49 : decode cX6_copyFrom 49 = .ok (.getfield 25, 3) := by decide +kernel
theorem dX6_copyFrom_52 : decode cX6_copyFrom 52 = .ok (.iload_n 2, 1) := by decide +kernel
theorem dX6_copyFrom_53 : decode cX6_copyFrom 53 = .ok (.aload_n 1, 1) := by decide +kernel
theorem dX6_copyFrom_54 : decode cX6_copyFrom 54 = .ok (.getfield 25, 3) := by decide +kernel
theorem dX6_copyFrom_57 : decode cX6_copyFrom 57 = .ok (.iload_n 2, 1) := by decide +kernel
theorem dX6_copyFrom_58 : decode cX6_copyFrom 58 = .ok (.iaload, 1) := by decide +kernel
theorem dX6_copyFrom_59 : decode cX6_copyFrom 59 = .ok (.iastore, 1) := by decide +kernel
theorem dX6_copyFrom_60 : decode cX6_copyFrom 60 = .ok (.iinc 2 1, 3) := by decide +kernel
theorem dX6_copyFrom_63 : decode cX6_copyFrom 63 = .ok (.goto (-21), 3) := by decide +kernel
theorem dX6_copyFrom_66 : decode cX6_copyFrom 66 = .ok (.return_, 1) := by decide +kernel
theorem dX6_told_0 : decode cX6_told 0 = .ok (.iload_n 1, 1) := by decide +kernel
theorem dX6_told_1 : decode cX6_told 1 = .ok (.tableswitch 51 0 3 #[31, 36, 41, 46], 31) := by decide +kernel
theorem dX6_told_32 : decode cX6_told 32 = .ok (.aload_n 0, 1) := by decide +kernel
theorem dX6_told_33 : decode cX6_told 33 = .ok (.getfield 7, 3) := by decide +kernel
theorem dX6_told_36 : decode cX6_told 36 = .ok (.ireturn, 1) := by decide +kernel
theorem dX6_told_37 : decode cX6_told 37 = .ok (.aload_n 0, 1) := by decide +kernel
theorem dX6_told_38 : decode cX6_told 38 = .ok (.getfield 13, 3) := by decide +kernel
theorem dX6_told_41 : decode cX6_told 41 = .ok (.ireturn, 1) := by decide +kernel
theorem dX6_told_42 : decode cX6_told 42 = .ok (.aload_n 0, 1) := by decide +kernel
theorem dX6_told_43 : decode cX6_told 43 = .ok (.getfield 16, 3) := by decide +kernel
theorem dX6_told_46 : decode cX6_told 46 = .ok (.ireturn, 1) := by decide +kernel
theorem dX6_told_47 : decode cX6_told 47 = .ok (.aload_n 0, 1) := by decide +kernel
theorem dX6_told_48 : decode cX6_told 48 = .ok (.getfield 19, 3) := by decide +kernel
theorem dX6_told_51 : decode cX6_told 51 = .ok (.ireturn, 1) := by decide +kernel
theorem dX6_told_52 : decode cX6_told 52 = .ok (.aload_n 0, 1) := by decide +kernel
theorem dX6_told_53 : decode cX6_told 53 = .ok (.getfield 22, 3) := by decide +kernel
theorem dX6_told_56 : decode cX6_told 56 = .ok (.ireturn, 1) := by decide +kernel
theorem dX6_guestAt_0 : decode cX6_guestAt 0 = .ok (.iload_n 1, 1) := by decide +kernel
theorem dX6_guestAt_1 : decode cX6_guestAt 1 = .ok (.ifCond .lt 26, 3) := by decide +kernel
theorem dX6_guestAt_4 : decode cX6_guestAt 4 = .ok (.iload_n 1, 1) := by decide +kernel
theorem dX6_guestAt_5 : decode cX6_guestAt 5 = .ok (.aload_n 0, 1) := by decide +kernel
theorem dX6_guestAt_6 : decode cX6_guestAt 6 = .ok (.getfield 19, 3) := by decide +kernel
theorem dX6_guestAt_9 : decode cX6_guestAt 9 = .ok (.if_icmp .ge 18, 3) := by decide +kernel
theorem dX6_guestAt_12 : decode cX6_guestAt 12 = .ok (.iload_n 1, 1) := by decide +kernel
theorem dX6_guestAt_13 : decode cX6_guestAt 13 = .ok (.bipush 6, 2) := by decide +kernel
theorem dX6_guestAt_15 : decode cX6_guestAt 15 = .ok (.if_icmp .ge 12, 3) := by decide +kernel
theorem dX6_guestAt_18 : decode cX6_guestAt 18 = .ok (.aload_n 0, 1) := by decide +kernel
theorem dX6_guestAt_19 : decode cX6_guestAt 19 = .ok (.getfield 25, 3) := by decide +kernel
theorem dX6_guestAt_22 : decode cX6_guestAt 22 = .ok (.iload_n 1, 1) := by decide +kernel
theorem dX6_guestAt_23 : decode cX6_guestAt 23 = .ok (.iaload, 1) := by decide +kernel
theorem dX6_guestAt_24 : decode cX6_guestAt 24 = .ok (.goto 4, 3) := by decide +kernel
theorem dX6_guestAt_27 : decode cX6_guestAt 27 = .ok (.iconst (-1), 1) := by decide +kernel
theorem dX6_guestAt_28 : decode cX6_guestAt 28 = .ok (.ireturn, 1) := by decide +kernel
theorem dX6_awaits_0 : decode cX6_awaits 0 = .ok (.iconst 0, 1) := by decide +kernel
theorem dX6_awaits_1 : decode cX6_awaits 1 = .ok (.istore_n 2, 1) := by decide +kernel
theorem dX6_awaits_2 : decode cX6_awaits 2 = .ok (.iload_n 2, 1) := by decide +kernel
theorem dX6_awaits_3 : decode cX6_awaits 3 = .ok (.aload_n 0, 1) := by decide +kernel
theorem dX6_awaits_4 : decode cX6_awaits 4 = .ok (.getfield 19, 3) := by decide +kernel
theorem dX6_awaits_7 : decode cX6_awaits 7 = .ok (.if_icmp .ge 20, 3) := by decide +kernel
theorem dX6_awaits_10 : decode cX6_awaits 10 = .ok (.aload_n 0, 1) := by decide +kernel
theorem dX6_awaits_11 : decode cX6_awaits 11 = .ok (.iload_n 2, 1) := by decide +kernel
theorem dX6_awaits_12 : decode cX6_awaits 12 = .ok (.invokevirtual 29, 3) := by decide +kernel
theorem dX6_awaits_15 : decode cX6_awaits 15 = .ok (.iload_n 1, 1) := by decide +kernel
theorem dX6_awaits_16 : decode cX6_awaits 16 = .ok (.if_icmp .ne 5, 3) := by decide +kernel
theorem dX6_awaits_19 : decode cX6_awaits 19 = .ok (.iconst 1, 1) := by decide +kernel
theorem dX6_awaits_20 : decode cX6_awaits 20 = .ok (.ireturn, 1) := by decide +kernel
theorem dX6_awaits_21 : decode cX6_awaits 21 = .ok (.iinc 2 1, 3) := by decide +kernel
theorem dX6_awaits_24 : decode cX6_awaits 24 = .ok (.goto (-22), 3) := by decide +kernel
theorem dX6_awaits_27 : decode cX6_awaits 27 = .ok (.iconst 0, 1) := by decide +kernel
theorem dX6_awaits_28 : decode cX6_awaits 28 = .ok (.ireturn, 1) := by decide +kernel
theorem dX6_append_0 : decode cX6_append 0 = .ok (.aload_n 0, 1) := by decide +kernel
theorem dX6_append_1 : decode cX6_append 1 = .ok (.getfield 19, 3) := by decide +kernel
theorem dX6_append_4 : decode cX6_append 4 = .ok (.ifCond .lt 32, 3) := by decide +kernel
theorem dX6_append_7 : decode cX6_append 7 = .ok (.aload_n 0, 1) := by decide +kernel
theorem dX6_append_8 : decode cX6_append 8 = .ok (.getfield 19, 3) := by decide +kernel
theorem dX6_append_11 : decode cX6_append 11 = .ok (.bipush 6, 2) := by decide +kernel
theorem dX6_append_13 : decode cX6_append 13 = .ok (.if_icmp .ge 23, 3) := by decide +kernel
theorem dX6_append_16 : decode cX6_append 16 = .ok (.aload_n 0, 1) := by decide +kernel
theorem dX6_append_17 : decode cX6_append 17 = .ok (.getfield 25, 3) := by decide +kernel
theorem dX6_append_20 : decode cX6_append 20 = .ok (.aload_n 0, 1) := by decide +kernel
theorem dX6_append_21 : decode cX6_append 21 = .ok (.getfield 19, 3) := by decide +kernel
theorem dX6_append_24 : decode cX6_append 24 = .ok (.iload_n 1, 1) := by decide +kernel
theorem dX6_append_25 : decode cX6_append 25 = .ok (.iastore, 1) := by decide +kernel
theorem dX6_append_26 : decode cX6_append 26 = .ok (.aload_n 0, 1) := by decide +kernel
theorem dX6_append_27 : decode cX6_append 27 = .ok (.dup, 1) := by decide +kernel
theorem dX6_append_28 : decode cX6_append 28 = .ok (.getfield 19, 3) := by decide +kernel
theorem dX6_append_31 : decode cX6_append 31 = .ok (.iconst 1, 1) := by decide +kernel
theorem dX6_append_32 : decode cX6_append 32 = .ok (.iadd, 1) := by decide +kernel
theorem dX6_append_33 : decode cX6_append 33 = .ok (.putfield 19, 3) := by decide +kernel
theorem dX6_append_36 : decode cX6_append 36 = .ok (.return_, 1) := by decide +kernel
theorem dX6_removeFirst_0 : decode cX6_removeFirst 0 = .ok (.iconst 1, 1) := by decide +kernel
theorem dX6_removeFirst_1 : decode cX6_removeFirst 1 = .ok (.istore_n 1, 1) := by decide +kernel
theorem dX6_removeFirst_2 : decode cX6_removeFirst 2 = .ok (.iload_n 1, 1) := by decide +kernel
theorem dX6_removeFirst_3 : decode cX6_removeFirst 3 = .ok (.bipush 6, 2) := by decide +kernel
theorem dX6_removeFirst_5 : decode cX6_removeFirst 5 = .ok (.if_icmp .ge 23, 3) := by decide +kernel
theorem dX6_removeFirst_8 : decode cX6_removeFirst 8 = .ok (.aload_n 0, 1) := by decide +kernel
theorem dX6_removeFirst_9 : decode cX6_removeFirst 9 = .ok (.getfield 25, 3) := by decide +kernel
theorem dX6_removeFirst_12 : decode cX6_removeFirst 12 = .ok (.iload_n 1, 1) := by decide +kernel
theorem dX6_removeFirst_13 : decode cX6_removeFirst 13 = .ok (.iconst 1, 1) := by decide +kernel
theorem dX6_removeFirst_14 : decode cX6_removeFirst 14 = .ok (.isub, 1) := by decide +kernel
theorem dX6_removeFirst_15 : decode cX6_removeFirst 15 = .ok (.aload_n 0, 1) := by decide +kernel
theorem dX6_removeFirst_16 : decode cX6_removeFirst 16 = .ok (.getfield 25, 3) := by decide +kernel
theorem dX6_removeFirst_19 : decode cX6_removeFirst 19 = .ok (.iload_n 1, 1) := by decide +kernel
theorem dX6_removeFirst_20 : decode cX6_removeFirst 20 = .ok (.iaload, 1) := by decide +kernel
theorem dX6_removeFirst_21 : decode cX6_removeFirst 21 = .ok (.iastore, 1) := by decide +kernel
theorem dX6_removeFirst_22 : decode cX6_removeFirst 22 = .ok (.iinc 1 1, 3) := by decide +kernel
theorem dX6_removeFirst_25 : decode cX6_removeFirst 25 = .ok (.goto (-23), 3) := by decide +kernel
theorem dX6_removeFirst_28 : decode cX6_removeFirst 28 = .ok (.aload_n 0, 1) := by decide +kernel
theorem dX6_removeFirst_29 : decode cX6_removeFirst 29 = .ok (.dup, 1) := by decide +kernel
theorem dX6_removeFirst_30 : decode cX6_removeFirst 30 = .ok (.getfield 19, 3) := by decide +kernel
theorem dX6_removeFirst_33 : decode cX6_removeFirst 33 = .ok (.iconst 1, 1) := by decide +kernel
theorem dX6_removeFirst_34 : decode cX6_removeFirst 34 = .ok (.isub, 1) := by decide +kernel
theorem dX6_removeFirst_35 : decode cX6_removeFirst 35 = .ok (.putfield 19, 3) := by decide +kernel
theorem dX6_removeFirst_38 : decode cX6_removeFirst 38 = .ok (.return_, 1) := by decide +kernel
theorem dX7_init_0 : decode cX7_init 0 = .ok (.aload_n 0, 1) := by decide +kernel
theorem dX7_init_1 : decode cX7_init 1 = .ok (.invokespecial 1, 3) := by decide +kernel
theorem dX7_init_4 : decode cX7_init 4 = .ok (.aload_n 0, 1) := by decide +kernel
theorem dX7_init_5 : decode cX7_init 5 = .ok (.bipush 60, 2) := by decide +kernel
theorem dX7_init_7 : decode cX7_init 7 = .ok (.newarray .char, 2) := by decide +kernel
theorem dX7_init_9 : decode cX7_init 9 = .ok (.putfield 9, 3) := by decide +kernel
theorem dX7_init_12 : decode cX7_init 12 = .ok (.aload_n 0, 1) := by decide +kernel
theorem dX7_init_13 : decode cX7_init 13 = .ok (.iconst 0, 1) := by decide +kernel
theorem dX7_init_14 : decode cX7_init 14 = .ok (.putfield 13, 3) := by decide +kernel
theorem dX7_init_17 : decode cX7_init 17 = .ok (.aload_n 0, 1) := by decide +kernel
theorem dX7_init_18 : decode cX7_init 18 = .ok (.iconst 0, 1) := by decide +kernel
theorem dX7_init_19 : decode cX7_init 19 = .ok (.putfield 17, 3) := by decide +kernel
theorem dX7_init_22 : decode cX7_init 22 = .ok (.aload_n 0, 1) := by decide +kernel
theorem dX7_init_23 : decode cX7_init 23 = .ok (.getstatic 20, 3) := by decide +kernel
theorem dX7_init_26 : decode cX7_init 26 = .ok (.putfield 26, 3) := by decide +kernel
theorem dX7_init_29 : decode cX7_init 29 = .ok (.aload_n 0, 1) := by decide +kernel
theorem dX7_init_30 : decode cX7_init 30 = .ok (.iconst 0, 1) := by decide +kernel
theorem dX7_init_31 : decode cX7_init 31 = .ok (.putfield 29, 3) := by decide +kernel
theorem dX7_init_34 : decode cX7_init 34 = .ok (.aload_n 0, 1) := by decide +kernel
theorem dX7_init_35 : decode cX7_init 35 = .ok (.iconst 0, 1) := by decide +kernel
theorem dX7_init_36 : decode cX7_init 36 = .ok (.putfield 32, 3) := by decide +kernel
theorem dX7_init_39 : decode cX7_init 39 = .ok (.return_, 1) := by decide +kernel
theorem dX7_takes_0 : decode cX7_takes 0 = .ok (.aload_n 0, 1) := by decide +kernel
theorem dX7_takes_1 : decode cX7_takes 1 = .ok (.getfield 13, 3) := by decide +kernel
theorem dX7_takes_4 : decode cX7_takes 4 = .ok (.ifCond .lt 12, 3) := by decide +kernel
theorem dX7_takes_7 : decode cX7_takes 7 = .ok (.aload_n 0, 1) := by decide +kernel
theorem dX7_takes_8 : decode cX7_takes 8 = .ok (.getfield 13, 3) := by decide +kernel
theorem dX7_takes_11 : decode cX7_takes 11 = .ok (.bipush 60, 2) := by decide +kernel
theorem dX7_takes_13 : decode cX7_takes 13 = .ok (.if_icmp .lt 5, 3) := by decide +kernel
theorem dX7_takes_16 : decode cX7_takes 16 = .ok (.iconst 0, 1) := by decide +kernel
theorem dX7_takes_17 : decode cX7_takes 17 = .ok (.ireturn, 1) := by decide +kernel
theorem dX7_takes_18 : decode cX7_takes 18 = .ok (.aload_n 0, 1) := by decide +kernel
theorem dX7_takes_19 : decode cX7_takes 19 = .ok (.getfield 9, 3) := by decide +kernel
theorem dX7_takes_22 : decode cX7_takes 22 = .ok (.aload_n 0, 1) := by decide +kernel
theorem dX7_takes_23 : decode cX7_takes 23 = .ok (.getfield 13, 3) := by decide +kernel
theorem dX7_takes_26 : decode cX7_takes 26 = .ok (.iload_n 1, 1) := by decide +kernel
theorem dX7_takes_27 : decode cX7_takes 27 = .ok (.castore, 1) := by decide +kernel
theorem dX7_takes_28 : decode cX7_takes 28 = .ok (.aload_n 0, 1) := by decide +kernel
theorem dX7_takes_29 : decode cX7_takes 29 = .ok (.dup, 1) := by decide +kernel
theorem dX7_takes_30 : decode cX7_takes 30 = .ok (.getfield 13, 3) := by decide +kernel
theorem dX7_takes_33 : decode cX7_takes 33 = .ok (.iconst 1, 1) := by decide +kernel
theorem dX7_takes_34 : decode cX7_takes 34 = .ok (.iadd, 1) := by decide +kernel
theorem dX7_takes_35 : decode cX7_takes 35 = .ok (.putfield 13, 3) := by decide +kernel
theorem dX7_takes_38 : decode cX7_takes 38 = .ok (.iconst 1, 1) := by decide +kernel
theorem dX7_takes_39 : decode cX7_takes 39 = .ok (.ireturn, 1) := by decide +kernel
theorem dX7_firstFault_0 : decode cX7_firstFault 0 = .ok (.aload_n 0, 1) := by decide +kernel
theorem dX7_firstFault_1 : decode cX7_firstFault 1 = .ok (.iconst 0, 1) := by decide +kernel
theorem dX7_firstFault_2 : decode cX7_firstFault 2 = .ok (.putfield 17, 3) := by decide +kernel
theorem dX7_firstFault_5 : decode cX7_firstFault 5 = .ok (.iconst 0, 1) := by decide +kernel
theorem dX7_firstFault_6 : decode cX7_firstFault 6 = .ok (.istore_n 1, 1) := by decide +kernel
theorem dX7_firstFault_7 : decode cX7_firstFault 7 = .ok (.iload_n 1, 1) := by decide +kernel
theorem dX7_firstFault_8 : decode cX7_firstFault 8 = .ok (.bipush 60, 2) := by decide +kernel
theorem dX7_firstFault_10 : decode cX7_firstFault 10 = .ok (.if_icmp .ge 48, 3) := by decide +kernel
theorem dX7_firstFault_13 : decode cX7_firstFault 13 = .ok (.aload_n 0, 1) := by decide +kernel
theorem dX7_firstFault_14 : decode cX7_firstFault 14 = .ok (.invokevirtual 35, 3) := by decide +kernel
theorem dX7_firstFault_17 : decode cX7_firstFault 17 = .ok (.ifCond .ne 8, 3) := by decide +kernel
theorem dX7_firstFault_20 : decode cX7_firstFault 20 = .ok (.aload_n 0, 1) := by decide +kernel
theorem dX7_firstFault_21 : decode cX7_firstFault 21 = .ok (.getfield 17, 3) := by decide +kernel
theorem dX7_firstFault_24 : decode cX7_firstFault 24 = .ok (.ireturn, 1) := by decide +kernel
theorem dX7_firstFault_25 : decode cX7_firstFault 25 = .ok (.aload_n 0, 1) := by decide +kernel
theorem dX7_firstFault_26 : decode cX7_firstFault 26 = .ok (.getfield 17, 3) := by decide +kernel
theorem dX7_firstFault_29 : decode cX7_firstFault 29 = .ok (.aload_n 0, 1) := by decide +kernel
theorem dX7_firstFault_30 : decode cX7_firstFault 30 = .ok (.getfield 13, 3) := by decide +kernel
theorem dX7_firstFault_33 : decode cX7_firstFault 33 = .ok (.if_icmp .lt 5, 3) := by decide +kernel
theorem dX7_firstFault_36 : decode cX7_firstFault 36 = .ok (.iconst (-1), 1) := by decide +kernel
theorem dX7_firstFault_37 : decode cX7_firstFault 37 = .ok (.ireturn, 1) := by decide +kernel
theorem dX7_firstFault_38 : decode cX7_firstFault 38 = .ok (.aload_n 0, 1) := by decide +kernel
theorem dX7_firstFault_39 : decode cX7_firstFault 39 = .ok (.bipush 59, 2) := by decide +kernel
theorem dX7_firstFault_41 : decode cX7_firstFault 41 = .ok (.invokevirtual 39, 3) := by decide +kernel
theorem dX7_firstFault_44 : decode cX7_firstFault 44 = .ok (.ifCond .ne 8, 3) := by decide +kernel
theorem dX7_firstFault_47 : decode cX7_firstFault 47 = .ok (.aload_n 0, 1) := by decide +kernel
theorem dX7_firstFault_48 : decode cX7_firstFault 48 = .ok (.getfield 17, 3) := by decide +kernel
theorem dX7_firstFault_51 : decode cX7_firstFault 51 = .ok (.ireturn, 1) := by decide +kernel
theorem dX7_firstFault_52 : decode cX7_firstFault 52 = .ok (.iinc 1 1, 3) := by decide +kernel
theorem dX7_firstFault_55 : decode cX7_firstFault 55 = .ok (.goto (-48), 3) := by decide +kernel
theorem dX7_firstFault_58 : decode cX7_firstFault 58 = .ok (.aload_n 0, 1) := by decide +kernel
theorem dX7_firstFault_59 : decode cX7_firstFault 59 = .ok (.getfield 17, 3) := by decide +kernel
theorem dX7_firstFault_62 : decode cX7_firstFault 62 = .ok (.ireturn, 1) := by decide +kernel
theorem dX7_readsCommand_0 : decode cX7_readsCommand 0 = .ok (.aload_n 0, 1) := by decide +kernel
theorem dX7_readsCommand_1 : decode cX7_readsCommand 1 = .ok (.invokevirtual 43, 3) := by decide +kernel
theorem dX7_readsCommand_4 : decode cX7_readsCommand 4 = .ok (.ifCond .ne 5, 3) := by decide +kernel
theorem dX7_readsCommand_7 : decode cX7_readsCommand 7 = .ok (.iconst 0, 1) := by decide +kernel
theorem dX7_readsCommand_8 : decode cX7_readsCommand 8 = .ok (.ireturn, 1) := by decide +kernel
theorem dX7_readsCommand_9 : decode cX7_readsCommand 9 = .ok (.aload_n 0, 1) := by decide +kernel
theorem dX7_readsCommand_10 : decode cX7_readsCommand 10 = .ok (.aload_n 0, 1) := by decide +kernel
theorem dX7_readsCommand_11 : decode cX7_readsCommand 11 = .ok (.invokevirtual 46, 3) := by decide +kernel
theorem dX7_readsCommand_14 : decode cX7_readsCommand 14 = .ok (.putfield 29, 3) := by decide +kernel
theorem dX7_readsCommand_17 : decode cX7_readsCommand 17 = .ok (.aload_n 0, 1) := by decide +kernel
theorem dX7_readsCommand_18 : decode cX7_readsCommand 18 = .ok (.getfield 29, 3) := by decide +kernel
theorem dX7_readsCommand_21 : decode cX7_readsCommand 21 = .ok (.ifCond .ge 5, 3) := by decide +kernel
theorem dX7_readsCommand_24 : decode cX7_readsCommand 24 = .ok (.iconst 0, 1) := by decide +kernel
theorem dX7_readsCommand_25 : decode cX7_readsCommand 25 = .ok (.ireturn, 1) := by decide +kernel
theorem dX7_readsCommand_26 : decode cX7_readsCommand 26 = .ok (.aload_n 0, 1) := by decide +kernel
theorem dX7_readsCommand_27 : decode cX7_readsCommand 27 = .ok (.getfield 26, 3) := by decide +kernel
theorem dX7_readsCommand_30 : decode cX7_readsCommand 30 = .ok (.getfield 50, 3) := by decide +kernel
theorem dX7_readsCommand_33 : decode cX7_readsCommand 33 = .ok (.iconst 1, 1) := by decide +kernel
theorem dX7_readsCommand_34 : decode cX7_readsCommand 34 = .ok (.if_icmp .ne 5, 3) := by decide +kernel
theorem dX7_readsCommand_37 : decode cX7_readsCommand 37 = .ok (.iconst 1, 1) := by decide +kernel
theorem dX7_readsCommand_38 : decode cX7_readsCommand 38 = .ok (.ireturn, 1) := by decide +kernel
theorem dX7_readsCommand_39 : decode cX7_readsCommand 39 = .ok (.aload_n 0, 1) := by decide +kernel
theorem dX7_readsCommand_40 : decode cX7_readsCommand 40 = .ok (.getfield 26, 3) := by decide +kernel
theorem dX7_readsCommand_43 : decode cX7_readsCommand 43 = .ok (.getfield 50, 3) := by decide +kernel
theorem dX7_readsCommand_46 : decode cX7_readsCommand 46 = .ok (.iconst 2, 1) := by decide +kernel
theorem dX7_readsCommand_47 : decode cX7_readsCommand 47 = .ok (.if_icmp .ne 37, 3) := by decide +kernel
theorem dX7_readsCommand_50 : decode cX7_readsCommand 50 = .ok (.aload_n 0, 1) := by decide +kernel
theorem dX7_readsCommand_51 : decode cX7_readsCommand 51 = .ok (.aload_n 0, 1) := by decide +kernel
theorem dX7_readsCommand_52 : decode cX7_readsCommand 52 = .ok (.bipush 32, 2) := by decide +kernel
theorem dX7_readsCommand_54 : decode cX7_readsCommand 54 = .ok (.invokevirtual 39, 3) := by decide +kernel
theorem dX7_readsCommand_57 : decode cX7_readsCommand 57 = .ok (.ifCond .eq 10, 3) := by decide +kernel
theorem dX7_readsCommand_60 : decode cX7_readsCommand 60 = .ok (.aload_n 0, 1) := by decide +kernel
theorem dX7_readsCommand_61 : decode cX7_readsCommand 61 = .ok (.invokevirtual 46, 3) := by decide +kernel
theorem dX7_readsCommand_64 : decode cX7_readsCommand 64 = .ok (.goto 4, 3) := by decide +kernel
theorem dX7_readsCommand_67 : decode cX7_readsCommand 67 = .ok (.iconst (-1), 1) := by decide +kernel
theorem dX7_readsCommand_68 : decode cX7_readsCommand 68 = .ok (.putfield 32, 3) := by decide +kernel
theorem dX7_readsCommand_71 : decode cX7_readsCommand 71 = .ok (.aload_n 0, 1) := by decide +kernel
theorem dX7_readsCommand_72 : decode cX7_readsCommand 72 = .ok (.getfield 32, 3) := by decide +kernel
theorem dX7_readsCommand_75 : decode cX7_readsCommand 75 = .ok (.ifCond .lt 7, 3) := by decide +kernel
theorem dX7_readsCommand_78 : decode cX7_readsCommand 78 = .ok (.iconst 1, 1) := by decide +kernel
theorem dX7_readsCommand_79 : decode cX7_readsCommand 79 = .ok (.goto 4, 3) := by decide +kernel
theorem dX7_readsCommand_82 : decode cX7_readsCommand 82 = .ok (.iconst 0, 1) := by decide +kernel
theorem dX7_readsCommand_83 : decode cX7_readsCommand 83 = .ok (.ireturn, 1) := by decide +kernel
theorem dX7_readsCommand_84 : decode cX7_readsCommand 84 = .ok (.aload_n 0, 1) := by decide +kernel
theorem dX7_readsCommand_85 : decode cX7_readsCommand 85 = .ok (.invokevirtual 46, 3) := by decide +kernel
theorem dX7_readsCommand_88 : decode cX7_readsCommand 88 = .ok (.istore_n 1, 1) := by decide +kernel
theorem dX7_readsCommand_89 : decode cX7_readsCommand 89 = .ok (.aload_n 0, 1) := by decide +kernel
theorem dX7_readsCommand_90 : decode cX7_readsCommand 90 = .ok (.iload_n 1, 1) := by decide +kernel
theorem dX7_readsCommand_91 : decode cX7_readsCommand 91 = .ok (.ifCond .ge 10, 3) := by decide +kernel
theorem dX7_readsCommand_94 : decode cX7_readsCommand 94 = .ok (.aload_n 0, 1) := by decide +kernel
theorem dX7_readsCommand_95 : decode cX7_readsCommand 95 = .ok (.getfield 29, 3) := by decide +kernel
theorem dX7_readsCommand_98 : decode cX7_readsCommand 98 = .ok (.goto 12, 3) := by decide +kernel
theorem dX7_readsCommand_101 : decode cX7_readsCommand 101 = .ok (.bipush 10, 2) := by decide +kernel
theorem dX7_readsCommand_103 : decode cX7_readsCommand 103 = .ok (.aload_n 0, 1) := by decide +kernel
theorem dX7_readsCommand_104 : decode cX7_readsCommand 104 = .ok (.getfield 29, 3) := by decide +kernel
theorem dX7_readsCommand_107 : decode cX7_readsCommand 107 = .ok (.imul, 1) := by decide +kernel
theorem dX7_readsCommand_108 : decode cX7_readsCommand 108 = .ok (.iload_n 1, 1) := by decide +kernel
theorem dX7_readsCommand_109 : decode cX7_readsCommand 109 = .ok (.iadd, 1) := by decide +kernel
theorem dX7_readsCommand_110 : decode cX7_readsCommand 110 = .ok (.putfield 29, 3) := by decide +kernel
theorem dX7_readsCommand_113 : decode cX7_readsCommand 113 = .ok (.iconst 1, 1) := by decide +kernel
theorem dX7_readsCommand_114 : decode cX7_readsCommand 114 = .ok (.ireturn, 1) := by decide +kernel
theorem dX7_readsWord_0 : decode cX7_readsWord 0 = .ok (.iconst 0, 1) := by decide +kernel
theorem dX7_readsWord_1 : decode cX7_readsWord 1 = .ok (.istore_n 1, 1) := by decide +kernel
theorem dX7_readsWord_2 : decode cX7_readsWord 2 = .ok (.iconst 0, 1) := by decide +kernel
theorem dX7_readsWord_3 : decode cX7_readsWord 3 = .ok (.istore_n 2, 1) := by decide +kernel
theorem dX7_readsWord_4 : decode cX7_readsWord 4 = .ok (.iconst 0, 1) := by decide +kernel
theorem dX7_readsWord_5 : decode cX7_readsWord 5 = .ok (.istore_n 3, 1) := by decide +kernel
theorem dX7_readsWord_6 : decode cX7_readsWord 6 = .ok (.iload_n 3, 1) := by decide +kernel
theorem dX7_readsWord_7 : decode cX7_readsWord 7 = .ok (.getstatic 53, 3) := by decide +kernel
theorem dX7_readsWord_10 : decode cX7_readsWord 10 = .ok (.arraylength, 1) := by decide +kernel
theorem dX7_readsWord_11 : decode cX7_readsWord 11 = .ok (.if_icmp .ge 55, 3) := by decide +kernel
theorem dX7_readsWord_14 : decode cX7_readsWord 14 = .ok (.getstatic 53, 3) := by decide +kernel
theorem dX7_readsWord_17 : decode cX7_readsWord 17 = .ok (.iload_n 3, 1) := by decide +kernel
theorem dX7_readsWord_18 : decode cX7_readsWord 18 = .ok (.aaload, 1) := by decide +kernel
theorem dX7_readsWord_19 : decode cX7_readsWord 19 = .ok (.getfield 57, 3) := by decide +kernel
theorem dX7_readsWord_22 : decode cX7_readsWord 22 = .ok (.astore 4, 2) := by decide +kernel
theorem dX7_readsWord_24 : decode cX7_readsWord 24 = .ok (.aload_n 0, 1) := by decide +kernel
theorem dX7_readsWord_25 : decode cX7_readsWord 25 = .ok (.aload 4, 2) := by decide +kernel
theorem dX7_readsWord_27 : decode cX7_readsWord 27 = .ok (.invokevirtual 61, 3) := by decide +kernel
theorem dX7_readsWord_30 : decode cX7_readsWord 30 = .ok (.istore 5, 2) := by decide +kernel
theorem dX7_readsWord_32 : decode cX7_readsWord 32 = .ok (.iload_n 1, 1) := by decide +kernel
theorem dX7_readsWord_33 : decode cX7_readsWord 33 = .ok (.iload 5, 2) := by decide +kernel
theorem dX7_readsWord_35 : decode cX7_readsWord 35 = .ok (.invokestatic 65, 3) := by decide +kernel
theorem dX7_readsWord_38 : decode cX7_readsWord 38 = .ok (.istore_n 1, 1) := by decide +kernel
theorem dX7_readsWord_39 : decode cX7_readsWord 39 = .ok (.iload 5, 2) := by decide +kernel
theorem dX7_readsWord_41 : decode cX7_readsWord 41 = .ok (.aload 4, 2) := by decide +kernel
theorem dX7_readsWord_43 : decode cX7_readsWord 43 = .ok (.invokevirtual 71, 3) := by decide +kernel
theorem dX7_readsWord_46 : decode cX7_readsWord 46 = .ok (.if_icmp .ne 14, 3) := by decide +kernel
theorem dX7_readsWord_49 : decode cX7_readsWord 49 = .ok (.aload_n 0, 1) := by decide +kernel
theorem dX7_readsWord_50 : decode cX7_readsWord 50 = .ok (.getstatic 53, 3) := by decide +kernel
theorem dX7_readsWord_53 : decode cX7_readsWord 53 = .ok (.iload_n 3, 1) := by decide +kernel
theorem dX7_readsWord_54 : decode cX7_readsWord 54 = .ok (.aaload, 1) := by decide +kernel
theorem dX7_readsWord_55 : decode cX7_readsWord 55 = .ok (.putfield 26, 3) := by decide +kernel
theorem dX7_readsWord_58 : decode cX7_readsWord 58 = .ok (.iconst 1, 1) := by decide +kernel
theorem dX7_readsWord_59 : decode cX7_readsWord 59 = .ok (.istore_n 2, 1) := by decide +kernel
theorem dX7_readsWord_60 : decode cX7_readsWord 60 = .ok (.iinc 3 1, 3) := by decide +kernel
theorem dX7_readsWord_63 : decode cX7_readsWord 63 = .ok (.goto (-57), 3) := by decide +kernel
theorem dX7_readsWord_66 : decode cX7_readsWord 66 = .ok (.aload_n 0, 1) := by decide +kernel
theorem dX7_readsWord_67 : decode cX7_readsWord 67 = .ok (.dup, 1) := by decide +kernel
theorem dX7_readsWord_68 : decode cX7_readsWord 68 = .ok (.getfield 17, 3) := by decide +kernel
theorem dX7_readsWord_71 : decode cX7_readsWord 71 = .ok (.iload_n 1, 1) := by decide +kernel
theorem dX7_readsWord_72 : decode cX7_readsWord 72 = .ok (.iadd, 1) := by decide +kernel
theorem dX7_readsWord_73 : decode cX7_readsWord 73 = .ok (.putfield 17, 3) := by decide +kernel
theorem dX7_readsWord_76 : decode cX7_readsWord 76 = .ok (.iload_n 2, 1) := by decide +kernel
theorem dX7_readsWord_77 : decode cX7_readsWord 77 = .ok (.ireturn, 1) := by decide +kernel
theorem dX7_fittingSigns_0 : decode cX7_fittingSigns 0 = .ok (.iconst 0, 1) := by decide +kernel
theorem dX7_fittingSigns_1 : decode cX7_fittingSigns 1 = .ok (.istore_n 2, 1) := by decide +kernel
theorem dX7_fittingSigns_2 : decode cX7_fittingSigns 2 = .ok (.iload_n 2, 1) := by decide +kernel
theorem dX7_fittingSigns_3 : decode cX7_fittingSigns 3 = .ok (.aload_n 1, 1) := by decide +kernel
theorem dX7_fittingSigns_4 : decode cX7_fittingSigns 4 = .ok (.invokevirtual 71, 3) := by decide +kernel
theorem dX7_fittingSigns_7 : decode cX7_fittingSigns 7 = .ok (.if_icmp .ge 27, 3) := by decide +kernel
theorem dX7_fittingSigns_10 : decode cX7_fittingSigns 10 = .ok (.aload_n 0, 1) := by decide +kernel
theorem dX7_fittingSigns_11 : decode cX7_fittingSigns 11 = .ok (.aload_n 0, 1) := by decide +kernel
theorem dX7_fittingSigns_12 : decode cX7_fittingSigns 12 = .ok (.getfield 17, 3) := by decide +kernel
theorem dX7_fittingSigns_15 : decode cX7_fittingSigns 15 = .ok (.iload_n 2, 1) := by decide +kernel
theorem dX7_fittingSigns_16 : decode cX7_fittingSigns 16 = .ok (.iadd, 1) := by decide +kernel
theorem dX7_fittingSigns_17 : decode cX7_fittingSigns 17 = .ok (.invokevirtual 75, 3) := by decide +kernel
theorem dX7_fittingSigns_20 : decode cX7_fittingSigns 20 = .ok (.aload_n 1, 1) := by decide +kernel
theorem dX7_fittingSigns_21 : decode cX7_fittingSigns 21 = .ok (.iload_n 2, 1) := by decide +kernel
theorem dX7_fittingSigns_22 : decode cX7_fittingSigns 22 = .ok (.invokevirtual 79, 3) := by decide +kernel
theorem dX7_fittingSigns_25 : decode cX7_fittingSigns 25 = .ok (.if_icmp .ne 9, 3) := by decide +kernel
theorem dX7_fittingSigns_28 : decode cX7_fittingSigns 28 = .ok (.iinc 2 1, 3) := by decide +kernel
theorem dX7_fittingSigns_31 : decode cX7_fittingSigns 31 = .ok (.goto (-29), 3) := by decide +kernel
theorem dX7_fittingSigns_34 : decode cX7_fittingSigns 34 = .ok (.iload_n 2, 1) := by decide +kernel
theorem dX7_fittingSigns_35 : decode cX7_fittingSigns 35 = .ok (.ireturn, 1) := by decide +kernel
theorem dX7_readDigit_0 : decode cX7_readDigit 0 = .ok (.aload_n 0, 1) := by decide +kernel
theorem dX7_readDigit_1 : decode cX7_readDigit 1 = .ok (.aload_n 0, 1) := by decide +kernel
theorem dX7_readDigit_2 : decode cX7_readDigit 2 = .ok (.getfield 17, 3) := by decide +kernel
theorem dX7_readDigit_5 : decode cX7_readDigit 5 = .ok (.invokevirtual 75, 3) := by decide +kernel
theorem dX7_readDigit_8 : decode cX7_readDigit 8 = .ok (.istore_n 1, 1) := by decide +kernel
theorem dX7_readDigit_9 : decode cX7_readDigit 9 = .ok (.iload_n 1, 1) := by decide +kernel
theorem dX7_readDigit_10 : decode cX7_readDigit 10 = .ok (.bipush 48, 2) := by decide +kernel
theorem dX7_readDigit_12 : decode cX7_readDigit 12 = .ok (.if_icmp .lt 9, 3) := by decide +kernel
theorem dX7_readDigit_15 : decode cX7_readDigit 15 = .ok (.iload_n 1, 1) := by decide +kernel
theorem dX7_readDigit_16 : decode cX7_readDigit 16 = .ok (.bipush 57, 2) := by decide +kernel
theorem dX7_readDigit_18 : decode cX7_readDigit 18 = .ok (.if_icmp .le 5, 3) := by decide +kernel
theorem dX7_readDigit_21 : decode cX7_readDigit 21 = .ok (.iconst (-1), 1) := by decide +kernel
theorem dX7_readDigit_22 : decode cX7_readDigit 22 = .ok (.ireturn, 1) := by decide +kernel
theorem dX7_readDigit_23 : decode cX7_readDigit 23 = .ok (.aload_n 0, 1) := by decide +kernel
theorem dX7_readDigit_24 : decode cX7_readDigit 24 = .ok (.dup, 1) := by decide +kernel
theorem dX7_readDigit_25 : decode cX7_readDigit 25 = .ok (.getfield 17, 3) := by decide +kernel
theorem dX7_readDigit_28 : decode cX7_readDigit 28 = .ok (.iconst 1, 1) := by decide +kernel
theorem dX7_readDigit_29 : decode cX7_readDigit 29 = .ok (.iadd, 1) := by decide +kernel
theorem dX7_readDigit_30 : decode cX7_readDigit 30 = .ok (.putfield 17, 3) := by decide +kernel
theorem dX7_readDigit_33 : decode cX7_readDigit 33 = .ok (.iload_n 1, 1) := by decide +kernel
theorem dX7_readDigit_34 : decode cX7_readDigit 34 = .ok (.bipush 48, 2) := by decide +kernel
theorem dX7_readDigit_36 : decode cX7_readDigit 36 = .ok (.isub, 1) := by decide +kernel
theorem dX7_readDigit_37 : decode cX7_readDigit 37 = .ok (.ireturn, 1) := by decide +kernel
theorem dX7_accepts_0 : decode cX7_accepts 0 = .ok (.aload_n 0, 1) := by decide +kernel
theorem dX7_accepts_1 : decode cX7_accepts 1 = .ok (.aload_n 0, 1) := by decide +kernel
theorem dX7_accepts_2 : decode cX7_accepts 2 = .ok (.getfield 17, 3) := by decide +kernel
theorem dX7_accepts_5 : decode cX7_accepts 5 = .ok (.invokevirtual 75, 3) := by decide +kernel
theorem dX7_accepts_8 : decode cX7_accepts 8 = .ok (.iload_n 1, 1) := by decide +kernel
theorem dX7_accepts_9 : decode cX7_accepts 9 = .ok (.if_icmp .eq 5, 3) := by decide +kernel
theorem dX7_accepts_12 : decode cX7_accepts 12 = .ok (.iconst 0, 1) := by decide +kernel
theorem dX7_accepts_13 : decode cX7_accepts 13 = .ok (.ireturn, 1) := by decide +kernel
theorem dX7_accepts_14 : decode cX7_accepts 14 = .ok (.aload_n 0, 1) := by decide +kernel
theorem dX7_accepts_15 : decode cX7_accepts 15 = .ok (.dup, 1) := by decide +kernel
theorem dX7_accepts_16 : decode cX7_accepts 16 = .ok (.getfield 17, 3) := by decide +kernel
theorem dX7_accepts_19 : decode cX7_accepts 19 = .ok (.iconst 1, 1) := by decide +kernel
theorem dX7_accepts_20 : decode cX7_accepts 20 = .ok (.iadd, 1) := by decide +kernel
theorem dX7_accepts_21 : decode cX7_accepts 21 = .ok (.putfield 17, 3) := by decide +kernel
theorem dX7_accepts_24 : decode cX7_accepts 24 = .ok (.iconst 1, 1) := by decide +kernel
theorem dX7_accepts_25 : decode cX7_accepts 25 = .ok (.ireturn, 1) := by decide +kernel
theorem dX7_signAt_0 : decode cX7_signAt 0 = .ok (.iload_n 1, 1) := by decide +kernel
theorem dX7_signAt_1 : decode cX7_signAt 1 = .ok (.ifCond .lt 26, 3) := by decide +kernel
theorem dX7_signAt_4 : decode cX7_signAt 4 = .ok (.iload_n 1, 1) := by decide +kernel
theorem dX7_signAt_5 : decode cX7_signAt 5 = .ok (.aload_n 0, 1) := by decide +kernel
theorem dX7_signAt_6 : decode cX7_signAt 6 = .ok (.getfield 13, 3) := by decide +kernel
theorem dX7_signAt_9 : decode cX7_signAt 9 = .ok (.if_icmp .ge 18, 3) := by decide +kernel
theorem dX7_signAt_12 : decode cX7_signAt 12 = .ok (.iload_n 1, 1) := by decide +kernel
theorem dX7_signAt_13 : decode cX7_signAt 13 = .ok (.bipush 60, 2) := by decide +kernel
theorem dX7_signAt_15 : decode cX7_signAt 15 = .ok (.if_icmp .ge 12, 3) := by decide +kernel
theorem dX7_signAt_18 : decode cX7_signAt 18 = .ok (.aload_n 0, 1) := by decide +kernel
theorem dX7_signAt_19 : decode cX7_signAt 19 = .ok (.getfield 9, 3) := by decide +kernel
theorem dX7_signAt_22 : decode cX7_signAt 22 = .ok (.iload_n 1, 1) := by decide +kernel
theorem dX7_signAt_23 : decode cX7_signAt 23 = .ok (.caload, 1) := by decide +kernel
theorem dX7_signAt_24 : decode cX7_signAt 24 = .ok (.goto 4, 3) := by decide +kernel
theorem dX7_signAt_27 : decode cX7_signAt 27 = .ok (.iconst (-1), 1) := by decide +kernel
theorem dX7_signAt_28 : decode cX7_signAt 28 = .ok (.ireturn, 1) := by decide +kernel
theorem dX8_init_0 : decode cX8_init 0 = .ok (.aload_n 0, 1) := by decide +kernel
theorem dX8_init_1 : decode cX8_init 1 = .ok (.invokespecial 1, 3) := by decide +kernel
theorem dX8_init_4 : decode cX8_init 4 = .ok (.aload_n 0, 1) := by decide +kernel
theorem dX8_init_5 : decode cX8_init 5 = .ok (.iconst 0, 1) := by decide +kernel
theorem dX8_init_6 : decode cX8_init 6 = .ok (.putfield 7, 3) := by decide +kernel
theorem dX8_init_9 : decode cX8_init 9 = .ok (.aload_n 0, 1) := by decide +kernel
theorem dX8_init_10 : decode cX8_init 10 = .ok (.iconst (-1), 1) := by decide +kernel
theorem dX8_init_11 : decode cX8_init 11 = .ok (.putfield 13, 3) := by decide +kernel
theorem dX8_init_14 : decode cX8_init 14 = .ok (.aload_n 0, 1) := by decide +kernel
theorem dX8_init_15 : decode cX8_init 15 = .ok (.iconst 0, 1) := by decide +kernel
theorem dX8_init_16 : decode cX8_init 16 = .ok (.putfield 16, 3) := by decide +kernel
theorem dX8_init_19 : decode cX8_init 19 = .ok (.aload_n 0, 1) := by decide +kernel
theorem dX8_init_20 : decode cX8_init 20 = .ok (.iconst 0, 1) := by decide +kernel
theorem dX8_init_21 : decode cX8_init 21 = .ok (.putfield 19, 3) := by decide +kernel
theorem dX8_init_24 : decode cX8_init 24 = .ok (.aload_n 0, 1) := by decide +kernel
theorem dX8_init_25 : decode cX8_init 25 = .ok (.bipush 10, 2) := by decide +kernel
theorem dX8_init_27 : decode cX8_init 27 = .ok (.putfield 22, 3) := by decide +kernel
theorem dX8_init_30 : decode cX8_init 30 = .ok (.aload_n 0, 1) := by decide +kernel
theorem dX8_init_31 : decode cX8_init 31 = .ok (.iconst 0, 1) := by decide +kernel
theorem dX8_init_32 : decode cX8_init 32 = .ok (.putfield 25, 3) := by decide +kernel
theorem dX8_init_35 : decode cX8_init 35 = .ok (.aload_n 0, 1) := by decide +kernel
theorem dX8_init_36 : decode cX8_init 36 = .ok (.iconst 0, 1) := by decide +kernel
theorem dX8_init_37 : decode cX8_init 37 = .ok (.putfield 29, 3) := by decide +kernel
theorem dX8_init_40 : decode cX8_init 40 = .ok (.return_, 1) := by decide +kernel
theorem dX8_hasSize_0 : decode cX8_hasSize 0 = .ok (.iload_n 0, 1) := by decide +kernel
theorem dX8_hasSize_1 : decode cX8_hasSize 1 = .ok (.iconst 1, 1) := by decide +kernel
theorem dX8_hasSize_2 : decode cX8_hasSize 2 = .ok (.if_icmp .lt 12, 3) := by decide +kernel
theorem dX8_hasSize_5 : decode cX8_hasSize 5 = .ok (.iload_n 0, 1) := by decide +kernel
theorem dX8_hasSize_6 : decode cX8_hasSize 6 = .ok (.iconst 3, 1) := by decide +kernel
theorem dX8_hasSize_7 : decode cX8_hasSize 7 = .ok (.if_icmp .gt 7, 3) := by decide +kernel
theorem dX8_hasSize_10 : decode cX8_hasSize 10 = .ok (.iconst 1, 1) := by decide +kernel
theorem dX8_hasSize_11 : decode cX8_hasSize 11 = .ok (.goto 4, 3) := by decide +kernel
theorem dX8_hasSize_14 : decode cX8_hasSize 14 = .ok (.iconst 0, 1) := by decide +kernel
theorem dX8_hasSize_15 : decode cX8_hasSize 15 = .ok (.ireturn, 1) := by decide +kernel
theorem dX8_hasSeam_0 : decode cX8_hasSeam 0 = .ok (.iload_n 0, 1) := by decide +kernel
theorem dX8_hasSeam_1 : decode cX8_hasSeam 1 = .ok (.ifCond .lt 13, 3) := by decide +kernel
theorem dX8_hasSeam_4 : decode cX8_hasSeam 4 = .ok (.iload_n 0, 1) := by decide +kernel
theorem dX8_hasSeam_5 : decode cX8_hasSeam 5 = .ok (.bipush 8, 2) := by decide +kernel
theorem dX8_hasSeam_7 : decode cX8_hasSeam 7 = .ok (.if_icmp .ge 7, 3) := by decide +kernel
theorem dX8_hasSeam_10 : decode cX8_hasSeam 10 = .ok (.iconst 1, 1) := by decide +kernel
theorem dX8_hasSeam_11 : decode cX8_hasSeam 11 = .ok (.goto 4, 3) := by decide +kernel
theorem dX8_hasSeam_14 : decode cX8_hasSeam 14 = .ok (.iconst 0, 1) := by decide +kernel
theorem dX8_hasSeam_15 : decode cX8_hasSeam 15 = .ok (.ireturn, 1) := by decide +kernel
theorem dX8_degreesAnHour_0 : decode cX8_degreesAnHour 0 = .ok (.iload_n 0, 1) := by decide +kernel
theorem dX8_degreesAnHour_1 : decode cX8_degreesAnHour 1 = .ok (.ifCond .le 10, 3) := by decide +kernel
theorem dX8_degreesAnHour_4 : decode cX8_degreesAnHour 4 = .ok (.bipush 12, 2) := by decide +kernel
theorem dX8_degreesAnHour_6 : decode cX8_degreesAnHour 6 = .ok (.iload_n 0, 1) := by decide +kernel
theorem dX8_degreesAnHour_7 : decode cX8_degreesAnHour 7 = .ok (.idiv, 1) := by decide +kernel
theorem dX8_degreesAnHour_8 : decode cX8_degreesAnHour 8 = .ok (.goto 4, 3) := by decide +kernel
theorem dX8_degreesAnHour_11 : decode cX8_degreesAnHour 11 = .ok (.iconst 0, 1) := by decide +kernel
theorem dX8_degreesAnHour_12 : decode cX8_degreesAnHour 12 = .ok (.ireturn, 1) := by decide +kernel
theorem dX8_heated_0 : decode cX8_heated 0 = .ok (.bipush 60, 2) := by decide +kernel
theorem dX8_heated_2 : decode cX8_heated 2 = .ok (.iload_n 1, 1) := by decide +kernel
theorem dX8_heated_3 : decode cX8_heated 3 = .ok (.iload_n 0, 1) := by decide +kernel
theorem dX8_heated_4 : decode cX8_heated 4 = .ok (.invokestatic 32, 3) := by decide +kernel
theorem dX8_heated_7 : decode cX8_heated 7 = .ok (.iadd, 1) := by decide +kernel
theorem dX8_heated_8 : decode cX8_heated 8 = .ok (.invokestatic 36, 3) := by decide +kernel
theorem dX8_heated_11 : decode cX8_heated 11 = .ok (.ireturn, 1) := by decide +kernel
theorem dX8_copyFrom_0 : decode cX8_copyFrom 0 = .ok (.aload_n 0, 1) := by decide +kernel
theorem dX8_copyFrom_1 : decode cX8_copyFrom 1 = .ok (.aload_n 1, 1) := by decide +kernel
theorem dX8_copyFrom_2 : decode cX8_copyFrom 2 = .ok (.getfield 7, 3) := by decide +kernel
theorem dX8_copyFrom_5 : decode cX8_copyFrom 5 = .ok (.putfield 7, 3) := by decide +kernel
theorem dX8_copyFrom_8 : decode cX8_copyFrom 8 = .ok (.aload_n 0, 1) := by decide +kernel
theorem dX8_copyFrom_9 : decode cX8_copyFrom 9 = .ok (.aload_n 1, 1) := by decide +kernel
theorem dX8_copyFrom_10 : decode cX8_copyFrom 10 = .ok (.getfield 13, 3) := by decide +kernel
theorem dX8_copyFrom_13 : decode cX8_copyFrom 13 = .ok (.putfield 13, 3) := by decide +kernel
theorem dX8_copyFrom_16 : decode cX8_copyFrom 16 = .ok (.aload_n 0, 1) := by decide +kernel
theorem dX8_copyFrom_17 : decode cX8_copyFrom 17 = .ok (.aload_n 1, 1) := by decide +kernel
theorem dX8_copyFrom_18 : decode cX8_copyFrom 18 = .ok (.getfield 16, 3) := by decide +kernel
theorem dX8_copyFrom_21 : decode cX8_copyFrom 21 = .ok (.putfield 16, 3) := by decide +kernel
theorem dX8_copyFrom_24 : decode cX8_copyFrom 24 = .ok (.aload_n 0, 1) := by decide +kernel
theorem dX8_copyFrom_25 : decode cX8_copyFrom 25 = .ok (.aload_n 1, 1) := by decide +kernel
theorem dX8_copyFrom_26 : decode cX8_copyFrom 26 = .ok (.getfield 19, 3) := by decide +kernel
theorem dX8_copyFrom_29 : decode cX8_copyFrom 29 = .ok (.putfield 19, 3) := by decide +kernel
theorem dX8_copyFrom_32 : decode cX8_copyFrom 32 = .ok (.aload_n 0, 1) := by decide +kernel
theorem dX8_copyFrom_33 : decode cX8_copyFrom 33 = .ok (.aload_n 1, 1) := by decide +kernel
theorem dX8_copyFrom_34 : decode cX8_copyFrom 34 = .ok (.getfield 22, 3) := by decide +kernel
theorem dX8_copyFrom_37 : decode cX8_copyFrom 37 = .ok (.putfield 22, 3) := by decide +kernel
theorem dX8_copyFrom_40 : decode cX8_copyFrom 40 = .ok (.aload_n 0, 1) := by decide +kernel
theorem dX8_copyFrom_41 : decode cX8_copyFrom 41 = .ok (.aload_n 1, 1) := by decide +kernel
theorem dX8_copyFrom_42 : decode cX8_copyFrom 42 = .ok (.getfield 25, 3) := by decide +kernel
theorem dX8_copyFrom_45 : decode cX8_copyFrom 45 = .ok (.putfield 25, 3) := by decide +kernel
theorem dX8_copyFrom_48 : decode cX8_copyFrom 48 = .ok (.aload_n 0, 1) := by decide +kernel
theorem dX8_copyFrom_49 : decode cX8_copyFrom 49 = .ok (.aload_n 1, 1) := by decide +kernel
theorem dX8_copyFrom_50 : decode cX8_copyFrom 50 = .ok (.getfield 29, 3) := by decide +kernel
theorem dX8_copyFrom_53 : decode cX8_copyFrom 53 = .ok (.putfield 29, 3) := by decide +kernel
theorem dX8_copyFrom_56 : decode cX8_copyFrom 56 = .ok (.return_, 1) := by decide +kernel
theorem dX8_told_0 : decode cX8_told 0 = .ok (.iload_n 1, 1) := by decide +kernel
theorem dX8_told_1 : decode cX8_told 1 = .ok (.tableswitch 88 0 5 #[39, 44, 49, 54, 59, 75], 39) := by decide +kernel
theorem dX8_told_40 : decode cX8_told 40 = .ok (.aload_n 0, 1) := by decide +kernel
theorem dX8_told_41 : decode cX8_told 41 = .ok (.getfield 7, 3) := by decide +kernel
theorem dX8_told_44 : decode cX8_told 44 = .ok (.ireturn, 1) := by decide +kernel
theorem dX8_told_45 : decode cX8_told 45 = .ok (.aload_n 0, 1) := by decide +kernel
theorem dX8_told_46 : decode cX8_told 46 = .ok (.getfield 13, 3) := by decide +kernel
theorem dX8_told_49 : decode cX8_told 49 = .ok (.ireturn, 1) := by decide +kernel
theorem dX8_told_50 : decode cX8_told 50 = .ok (.aload_n 0, 1) := by decide +kernel
theorem dX8_told_51 : decode cX8_told 51 = .ok (.getfield 16, 3) := by decide +kernel
theorem dX8_told_54 : decode cX8_told 54 = .ok (.ireturn, 1) := by decide +kernel
theorem dX8_told_55 : decode cX8_told 55 = .ok (.aload_n 0, 1) := by decide +kernel
theorem dX8_told_56 : decode cX8_told 56 = .ok (.getfield 19, 3) := by decide +kernel
theorem dX8_told_59 : decode cX8_told 59 = .ok (.ireturn, 1) := by decide +kernel
theorem dX8_told_60 : decode cX8_told 60 = .ok (.aload_n 0, 1) := by decide +kernel
theorem dX8_told_61 : decode cX8_told 61 = .ok (.getfield 19, 3) := by decide +kernel
theorem dX8_told_64 : decode cX8_told 64 = .ok (.ifCond .le 10, 3) := by decide +kernel
theorem dX8_told_67 : decode cX8_told 67 = .ok (.aload_n 0, 1) := by decide +kernel
theorem dX8_told_68 : decode cX8_told 68 = .ok (.getfield 22, 3) := by decide +kernel
theorem dX8_told_71 : decode cX8_told 71 = .ok (.goto 4, 3) := by decide +kernel
theorem dX8_told_74 : decode cX8_told 74 = .ok (.iconst 0, 1) := by decide +kernel
theorem dX8_told_75 : decode cX8_told 75 = .ok (.ireturn, 1) := by decide +kernel
theorem dX8_told_76 : decode cX8_told 76 = .ok (.aload_n 0, 1) := by decide +kernel
theorem dX8_told_77 : decode cX8_told 77 = .ok (.getfield 25, 3) := by decide +kernel
theorem dX8_told_80 : decode cX8_told 80 = .ok (.ifCond .eq 7, 3) := by decide +kernel
theorem dX8_told_83 : decode cX8_told 83 = .ok (.iconst 1, 1) := by decide +kernel
theorem dX8_told_84 : decode cX8_told 84 = .ok (.goto 4, 3) := by decide +kernel
theorem dX8_told_87 : decode cX8_told 87 = .ok (.iconst 0, 1) := by decide +kernel
theorem dX8_told_88 : decode cX8_told 88 = .ok (.ireturn, 1) := by decide +kernel
theorem dX8_told_89 : decode cX8_told 89 = .ok (.aload_n 0, 1) := by decide +kernel
theorem dX8_told_90 : decode cX8_told 90 = .ok (.getfield 29, 3) := by decide +kernel
theorem dX8_told_93 : decode cX8_told 93 = .ok (.ireturn, 1) := by decide +kernel
theorem dX8_isTorn_0 : decode cX8_isTorn 0 = .ok (.aload_n 0, 1) := by decide +kernel
theorem dX8_isTorn_1 : decode cX8_isTorn 1 = .ok (.getfield 16, 3) := by decide +kernel
theorem dX8_isTorn_4 : decode cX8_isTorn 4 = .ok (.iload_n 1, 1) := by decide +kernel
theorem dX8_isTorn_5 : decode cX8_isTorn 5 = .ok (.ishr, 1) := by decide +kernel
theorem dX8_isTorn_6 : decode cX8_isTorn 6 = .ok (.iconst 1, 1) := by decide +kernel
theorem dX8_isTorn_7 : decode cX8_isTorn 7 = .ok (.iand, 1) := by decide +kernel
theorem dX8_isTorn_8 : decode cX8_isTorn 8 = .ok (.ifCond .eq 7, 3) := by decide +kernel
theorem dX8_isTorn_11 : decode cX8_isTorn 11 = .ok (.iconst 1, 1) := by decide +kernel
theorem dX8_isTorn_12 : decode cX8_isTorn 12 = .ok (.goto 4, 3) := by decide +kernel
theorem dX8_isTorn_15 : decode cX8_isTorn 15 = .ok (.iconst 0, 1) := by decide +kernel
theorem dX8_isTorn_16 : decode cX8_isTorn 16 = .ok (.ireturn, 1) := by decide +kernel
theorem dX8_tornFrom_0 : decode cX8_tornFrom 0 = .ok (.iload_n 1, 1) := by decide +kernel
theorem dX8_tornFrom_1 : decode cX8_tornFrom 1 = .ok (.istore_n 2, 1) := by decide +kernel
theorem dX8_tornFrom_2 : decode cX8_tornFrom 2 = .ok (.iload_n 2, 1) := by decide +kernel
theorem dX8_tornFrom_3 : decode cX8_tornFrom 3 = .ok (.bipush 8, 2) := by decide +kernel
theorem dX8_tornFrom_5 : decode cX8_tornFrom 5 = .ok (.if_icmp .ge 19, 3) := by decide +kernel
theorem dX8_tornFrom_8 : decode cX8_tornFrom 8 = .ok (.aload_n 0, 1) := by decide +kernel
theorem dX8_tornFrom_9 : decode cX8_tornFrom 9 = .ok (.iload_n 2, 1) := by decide +kernel
theorem dX8_tornFrom_10 : decode cX8_tornFrom 10 = .ok (.invokevirtual 42, 3) := by decide +kernel
theorem dX8_tornFrom_13 : decode cX8_tornFrom 13 = .ok (.ifCond .eq 5, 3) := by decide +kernel
theorem dX8_tornFrom_16 : decode cX8_tornFrom 16 = .ok (.iload_n 2, 1) := by decide +kernel
theorem dX8_tornFrom_17 : decode cX8_tornFrom 17 = .ok (.ireturn, 1) := by decide +kernel
theorem dX8_tornFrom_18 : decode cX8_tornFrom 18 = .ok (.iinc 2 1, 3) := by decide +kernel
theorem dX8_tornFrom_21 : decode cX8_tornFrom 21 = .ok (.goto (-19), 3) := by decide +kernel
theorem dX8_tornFrom_24 : decode cX8_tornFrom 24 = .ok (.iconst (-1), 1) := by decide +kernel
theorem dX8_tornFrom_25 : decode cX8_tornFrom 25 = .ok (.ireturn, 1) := by decide +kernel
theorem dX8_tornSeams_0 : decode cX8_tornSeams 0 = .ok (.aload_n 0, 1) := by decide +kernel
theorem dX8_tornSeams_1 : decode cX8_tornSeams 1 = .ok (.getfield 16, 3) := by decide +kernel
theorem dX8_tornSeams_4 : decode cX8_tornSeams 4 = .ok (.invokestatic 46, 3) := by decide +kernel
theorem dX8_tornSeams_7 : decode cX8_tornSeams 7 = .ok (.ireturn, 1) := by decide +kernel
theorem dX8_fullLitres_0 : decode cX8_fullLitres 0 = .ok (.bipush 100, 2) := by decide +kernel
theorem dX8_fullLitres_2 : decode cX8_fullLitres 2 = .ok (.aload_n 0, 1) := by decide +kernel
theorem dX8_fullLitres_3 : decode cX8_fullLitres 3 = .ok (.getfield 7, 3) := by decide +kernel
theorem dX8_fullLitres_6 : decode cX8_fullLitres 6 = .ok (.imul, 1) := by decide +kernel
theorem dX8_fullLitres_7 : decode cX8_fullLitres 7 = .ok (.ireturn, 1) := by decide +kernel
theorem dX8_lose_0 : decode cX8_lose 0 = .ok (.aload_n 0, 1) := by decide +kernel
theorem dX8_lose_1 : decode cX8_lose 1 = .ok (.iconst 0, 1) := by decide +kernel
theorem dX8_lose_2 : decode cX8_lose 2 = .ok (.aload_n 0, 1) := by decide +kernel
theorem dX8_lose_3 : decode cX8_lose 3 = .ok (.getfield 19, 3) := by decide +kernel
theorem dX8_lose_6 : decode cX8_lose 6 = .ok (.iload_n 1, 1) := by decide +kernel
theorem dX8_lose_7 : decode cX8_lose 7 = .ok (.isub, 1) := by decide +kernel
theorem dX8_lose_8 : decode cX8_lose 8 = .ok (.invokestatic 51, 3) := by decide +kernel
theorem dX8_lose_11 : decode cX8_lose 11 = .ok (.putfield 19, 3) := by decide +kernel
theorem dX8_lose_14 : decode cX8_lose 14 = .ok (.return_, 1) := by decide +kernel
theorem dX8_drain_0 : decode cX8_drain 0 = .ok (.aload_n 0, 1) := by decide +kernel
theorem dX8_drain_1 : decode cX8_drain 1 = .ok (.iload_n 1, 1) := by decide +kernel
theorem dX8_drain_2 : decode cX8_drain 2 = .ok (.invokevirtual 54, 3) := by decide +kernel
theorem dX8_drain_5 : decode cX8_drain 5 = .ok (.aload_n 0, 1) := by decide +kernel
theorem dX8_drain_6 : decode cX8_drain 6 = .ok (.getfield 19, 3) := by decide +kernel
theorem dX8_drain_9 : decode cX8_drain 9 = .ok (.ifCond .ne 8, 3) := by decide +kernel
theorem dX8_drain_12 : decode cX8_drain 12 = .ok (.aload_n 0, 1) := by decide +kernel
theorem dX8_drain_13 : decode cX8_drain 13 = .ok (.iconst 0, 1) := by decide +kernel
theorem dX8_drain_14 : decode cX8_drain 14 = .ok (.putfield 25, 3) := by decide +kernel
theorem dX8_drain_17 : decode cX8_drain 17 = .ok (.return_, 1) := by decide +kernel
theorem dX8_fill_0 : decode cX8_fill 0 = .ok (.aload_n 0, 1) := by decide +kernel
theorem dX8_fill_1 : decode cX8_fill 1 = .ok (.aload_n 0, 1) := by decide +kernel
theorem dX8_fill_2 : decode cX8_fill 2 = .ok (.getfield 19, 3) := by decide +kernel
theorem dX8_fill_5 : decode cX8_fill 5 = .ok (.ifCond .ne 8, 3) := by decide +kernel
theorem dX8_fill_8 : decode cX8_fill 8 = .ok (.bipush 10, 2) := by decide +kernel
theorem dX8_fill_10 : decode cX8_fill 10 = .ok (.goto 14, 3) := by decide +kernel
theorem dX8_fill_13 : decode cX8_fill 13 = .ok (.bipush 10, 2) := by decide +kernel
theorem dX8_fill_15 : decode cX8_fill 15 = .ok (.aload_n 0, 1) := by decide +kernel
theorem dX8_fill_16 : decode cX8_fill 16 = .ok (.getfield 22, 3) := by decide +kernel
theorem dX8_fill_19 : decode cX8_fill 19 = .ok (.iconst 5, 1) := by decide +kernel
theorem dX8_fill_20 : decode cX8_fill 20 = .ok (.isub, 1) := by decide +kernel
theorem dX8_fill_21 : decode cX8_fill 21 = .ok (.invokestatic 51, 3) := by decide +kernel
theorem dX8_fill_24 : decode cX8_fill 24 = .ok (.putfield 22, 3) := by decide +kernel
theorem dX8_fill_27 : decode cX8_fill 27 = .ok (.aload_n 0, 1) := by decide +kernel
theorem dX8_fill_28 : decode cX8_fill 28 = .ok (.aload_n 0, 1) := by decide +kernel
theorem dX8_fill_29 : decode cX8_fill 29 = .ok (.invokevirtual 58, 3) := by decide +kernel
theorem dX8_fill_32 : decode cX8_fill 32 = .ok (.putfield 19, 3) := by decide +kernel
theorem dX8_fill_35 : decode cX8_fill 35 = .ok (.return_, 1) := by decide +kernel
theorem dX8_empty_0 : decode cX8_empty 0 = .ok (.aload_n 0, 1) := by decide +kernel
theorem dX8_empty_1 : decode cX8_empty 1 = .ok (.iconst 0, 1) := by decide +kernel
theorem dX8_empty_2 : decode cX8_empty 2 = .ok (.putfield 19, 3) := by decide +kernel
theorem dX8_empty_5 : decode cX8_empty 5 = .ok (.aload_n 0, 1) := by decide +kernel
theorem dX8_empty_6 : decode cX8_empty 6 = .ok (.iconst 0, 1) := by decide +kernel
theorem dX8_empty_7 : decode cX8_empty 7 = .ok (.putfield 25, 3) := by decide +kernel
theorem dX8_empty_10 : decode cX8_empty 10 = .ok (.return_, 1) := by decide +kernel
theorem dX9_init_0 : decode cX9_init 0 = .ok (.aload_n 0, 1) := by decide +kernel
theorem dX9_init_1 : decode cX9_init 1 = .ok (.invokespecial 1, 3) := by decide +kernel
theorem dX9_init_4 : decode cX9_init 4 = .ok (.aload_n 0, 1) := by decide +kernel
theorem dX9_init_5 : decode cX9_init 5 = .ok (.new 7, 3) := by decide +kernel
theorem dX9_init_8 : decode cX9_init 8 = .ok (.dup, 1) := by decide +kernel
theorem dX9_init_9 : decode cX9_init 9 = .ok (.invokespecial 9, 3) := by decide +kernel
theorem dX9_init_12 : decode cX9_init 12 = .ok (.putfield 10, 3) := by decide +kernel
theorem dX9_init_15 : decode cX9_init 15 = .ok (.aload_n 0, 1) := by decide +kernel
theorem dX9_init_16 : decode cX9_init 16 = .ok (.new 7, 3) := by decide +kernel
theorem dX9_init_19 : decode cX9_init 19 = .ok (.dup, 1) := by decide +kernel
theorem dX9_init_20 : decode cX9_init 20 = .ok (.invokespecial 9, 3) := by decide +kernel
theorem dX9_init_23 : decode cX9_init 23 = .ok (.putfield 16, 3) := by decide +kernel
theorem dX9_init_26 : decode cX9_init 26 = .ok (.aload_n 0, 1) := by decide +kernel
theorem dX9_init_27 : decode cX9_init 27 = .ok (.new 7, 3) := by decide +kernel
theorem dX9_init_30 : decode cX9_init 30 = .ok (.dup, 1) := by decide +kernel
theorem dX9_init_31 : decode cX9_init 31 = .ok (.invokespecial 9, 3) := by decide +kernel
theorem dX9_init_34 : decode cX9_init 34 = .ok (.putfield 19, 3) := by decide +kernel
theorem dX9_init_37 : decode cX9_init 37 = .ok (.aload_n 0, 1) := by decide +kernel
theorem dX9_init_38 : decode cX9_init 38 = .ok (.new 22, 3) := by decide +kernel
theorem dX9_init_41 : decode cX9_init 41 = .ok (.dup, 1) := by decide +kernel
theorem dX9_init_42 : decode cX9_init 42 = .ok (.invokespecial 24, 3) := by decide +kernel
theorem dX9_init_45 : decode cX9_init 45 = .ok (.putfield 25, 3) := by decide +kernel
theorem dX9_init_48 : decode cX9_init 48 = .ok (.aload_n 0, 1) := by decide +kernel
theorem dX9_init_49 : decode cX9_init 49 = .ok (.new 29, 3) := by decide +kernel
theorem dX9_init_52 : decode cX9_init 52 = .ok (.dup, 1) := by decide +kernel
theorem dX9_init_53 : decode cX9_init 53 = .ok (.invokespecial 31, 3) := by decide +kernel
theorem dX9_init_56 : decode cX9_init 56 = .ok (.putfield 32, 3) := by decide +kernel
theorem dX9_init_59 : decode cX9_init 59 = .ok (.aload_n 0, 1) := by decide +kernel
theorem dX9_init_60 : decode cX9_init 60 = .ok (.new 36, 3) := by decide +kernel
theorem dX9_init_63 : decode cX9_init 63 = .ok (.dup, 1) := by decide +kernel
theorem dX9_init_64 : decode cX9_init 64 = .ok (.invokespecial 38, 3) := by decide +kernel
theorem dX9_init_67 : decode cX9_init 67 = .ok (.putfield 39, 3) := by decide +kernel
theorem dX9_init_70 : decode cX9_init 70 = .ok (.aload_n 0, 1) := by decide +kernel
theorem dX9_init_71 : decode cX9_init 71 = .ok (.iconst 0, 1) := by decide +kernel
theorem dX9_init_72 : decode cX9_init 72 = .ok (.putfield 43, 3) := by decide +kernel
theorem dX9_init_75 : decode cX9_init 75 = .ok (.aload_n 0, 1) := by decide +kernel
theorem dX9_init_76 : decode cX9_init 76 = .ok (.iconst (-1), 1) := by decide +kernel
theorem dX9_init_77 : decode cX9_init 77 = .ok (.putfield 47, 3) := by decide +kernel
theorem dX9_init_80 : decode cX9_init 80 = .ok (.return_, 1) := by decide +kernel
theorem dX9_tub_0 : decode cX9_tub 0 = .ok (.aload_n 0, 1) := by decide +kernel
theorem dX9_tub_1 : decode cX9_tub 1 = .ok (.getfield 25, 3) := by decide +kernel
theorem dX9_tub_4 : decode cX9_tub 4 = .ok (.aload_n 0, 1) := by decide +kernel
theorem dX9_tub_5 : decode cX9_tub 5 = .ok (.getfield 10, 3) := by decide +kernel
theorem dX9_tub_8 : decode cX9_tub 8 = .ok (.invokevirtual 51, 3) := by decide +kernel
theorem dX9_tub_11 : decode cX9_tub 11 = .ok (.aload_n 0, 1) := by decide +kernel
theorem dX9_tub_12 : decode cX9_tub 12 = .ok (.aload_n 0, 1) := by decide +kernel
theorem dX9_tub_13 : decode cX9_tub 13 = .ok (.getfield 10, 3) := by decide +kernel
theorem dX9_tub_16 : decode cX9_tub 16 = .ok (.iload_n 1, 1) := by decide +kernel
theorem dX9_tub_17 : decode cX9_tub 17 = .ok (.invokevirtual 55, 3) := by decide +kernel
theorem dX9_tub_20 : decode cX9_tub 20 = .ok (.invokevirtual 59, 3) := by decide +kernel
theorem dX9_tub_23 : decode cX9_tub 23 = .ok (.ireturn, 1) := by decide +kernel
theorem dX9_tubOf_0 : decode cX9_tubOf 0 = .ok (.aload_n 0, 1) := by decide +kernel
theorem dX9_tubOf_1 : decode cX9_tubOf 1 = .ok (.getfield 10, 3) := by decide +kernel
theorem dX9_tubOf_4 : decode cX9_tubOf 4 = .ok (.iload_n 1, 1) := by decide +kernel
theorem dX9_tubOf_5 : decode cX9_tubOf 5 = .ok (.invokevirtual 62, 3) := by decide +kernel
theorem dX9_tubOf_8 : decode cX9_tubOf 8 = .ok (.astore_n 3, 1) := by decide +kernel
theorem dX9_tubOf_9 : decode cX9_tubOf 9 = .ok (.aload_n 3, 1) := by decide +kernel
theorem dX9_tubOf_10 : decode cX9_tubOf 10 = .ok (.ifnonnull 13, 3) := by decide +kernel
theorem dX9_tubOf_13 : decode cX9_tubOf 13 = .ok (.new 66, 3) := by decide +kernel
theorem dX9_tubOf_16 : decode cX9_tubOf 16 = .ok (.dup, 1) := by decide +kernel
theorem dX9_tubOf_17 : decode cX9_tubOf 17 = .ok (.ldc 68, 2) := by decide +kernel
theorem dX9_tubOf_19 : decode cX9_tubOf 19 = .ok (.invokespecial 70, 3) := by decide +kernel
theorem dX9_tubOf_22 : decode cX9_tubOf 22 = .ok (.athrow, 1) := by decide +kernel
theorem dX9_tubOf_23 : decode cX9_tubOf 23 = .ok (.iload_n 2, 1) := by decide +kernel
theorem dX9_tubOf_24 : decode cX9_tubOf 24 = .ok (.ifCond .lt 9, 3) := by decide +kernel
theorem dX9_tubOf_27 : decode cX9_tubOf 27 = .ok (.iload_n 2, 1) := by decide +kernel
theorem dX9_tubOf_28 : decode cX9_tubOf 28 = .ok (.bipush 6, 2) := by decide +kernel
theorem dX9_tubOf_30 : decode cX9_tubOf 30 = .ok (.if_icmp .le 13, 3) := by decide +kernel
theorem dX9_tubOf_33 : decode cX9_tubOf 33 = .ok (.new 73, 3) := by decide +kernel
theorem dX9_tubOf_36 : decode cX9_tubOf 36 = .ok (.dup, 1) := by decide +kernel
theorem dX9_tubOf_37 : decode cX9_tubOf 37 = .ok (.ldc 75, 2) := by decide +kernel
theorem dX9_tubOf_39 : decode cX9_tubOf 39 = .ok (.invokespecial 77, 3) := by decide +kernel
theorem dX9_tubOf_42 : decode cX9_tubOf 42 = .ok (.athrow, 1) := by decide +kernel
theorem dX9_tubOf_43 : decode cX9_tubOf 43 = .ok (.aload_n 3, 1) := by decide +kernel
theorem dX9_tubOf_44 : decode cX9_tubOf 44 = .ok (.iload_n 2, 1) := by decide +kernel
theorem dX9_tubOf_45 : decode cX9_tubOf 45 = .ok (.invokevirtual 78, 3) := by decide +kernel
theorem dX9_tubOf_48 : decode cX9_tubOf 48 = .ok (.ireturn, 1) := by decide +kernel
theorem dX9_torn_0 : decode cX9_torn 0 = .ok (.aload_n 0, 1) := by decide +kernel
theorem dX9_torn_1 : decode cX9_torn 1 = .ok (.getfield 10, 3) := by decide +kernel
theorem dX9_torn_4 : decode cX9_torn 4 = .ok (.iload_n 1, 1) := by decide +kernel
theorem dX9_torn_5 : decode cX9_torn 5 = .ok (.invokevirtual 62, 3) := by decide +kernel
theorem dX9_torn_8 : decode cX9_torn 8 = .ok (.astore_n 3, 1) := by decide +kernel
theorem dX9_torn_9 : decode cX9_torn 9 = .ok (.aload_n 3, 1) := by decide +kernel
theorem dX9_torn_10 : decode cX9_torn 10 = .ok (.ifnull 10, 3) := by decide +kernel
theorem dX9_torn_13 : decode cX9_torn 13 = .ok (.iload_n 2, 1) := by decide +kernel
theorem dX9_torn_14 : decode cX9_torn 14 = .ok (.invokestatic 83, 3) := by decide +kernel
theorem dX9_torn_17 : decode cX9_torn 17 = .ok (.ifCond .ne 13, 3) := by decide +kernel
theorem dX9_torn_20 : decode cX9_torn 20 = .ok (.new 66, 3) := by decide +kernel
theorem dX9_torn_23 : decode cX9_torn 23 = .ok (.dup, 1) := by decide +kernel
theorem dX9_torn_24 : decode cX9_torn 24 = .ok (.ldc 87, 2) := by decide +kernel
theorem dX9_torn_26 : decode cX9_torn 26 = .ok (.invokespecial 70, 3) := by decide +kernel
theorem dX9_torn_29 : decode cX9_torn 29 = .ok (.athrow, 1) := by decide +kernel
theorem dX9_torn_30 : decode cX9_torn 30 = .ok (.aload_n 3, 1) := by decide +kernel
theorem dX9_torn_31 : decode cX9_torn 31 = .ok (.iload_n 2, 1) := by decide +kernel
theorem dX9_torn_32 : decode cX9_torn 32 = .ok (.invokevirtual 89, 3) := by decide +kernel
theorem dX9_torn_35 : decode cX9_torn 35 = .ok (.istore 4, 2) := by decide +kernel
theorem dX9_torn_37 : decode cX9_torn 37 = .ok (.iload 4, 2) := by decide +kernel
theorem dX9_torn_39 : decode cX9_torn 39 = .ok (.ifCond .ge 13, 3) := by decide +kernel
theorem dX9_torn_42 : decode cX9_torn 42 = .ok (.new 92, 3) := by decide +kernel
theorem dX9_torn_45 : decode cX9_torn 45 = .ok (.dup, 1) := by decide +kernel
theorem dX9_torn_46 : decode cX9_torn 46 = .ok (.ldc 94, 2) := by decide +kernel
theorem dX9_torn_48 : decode cX9_torn 48 = .ok (.invokespecial 96, 3) := by decide +kernel
theorem dX9_torn_51 : decode cX9_torn 51 = .ok (.athrow, 1) := by decide +kernel
theorem dX9_torn_52 : decode cX9_torn 52 = .ok (.iload 4, 2) := by decide +kernel
theorem dX9_torn_54 : decode cX9_torn 54 = .ok (.ireturn, 1) := by decide +kernel
theorem dX9_tear_0 : decode cX9_tear 0 = .ok (.aload_n 0, 1) := by decide +kernel
theorem dX9_tear_1 : decode cX9_tear 1 = .ok (.getfield 25, 3) := by decide +kernel
theorem dX9_tear_4 : decode cX9_tear 4 = .ok (.aload_n 0, 1) := by decide +kernel
theorem dX9_tear_5 : decode cX9_tear 5 = .ok (.getfield 10, 3) := by decide +kernel
theorem dX9_tear_8 : decode cX9_tear 8 = .ok (.invokevirtual 51, 3) := by decide +kernel
theorem dX9_tear_11 : decode cX9_tear 11 = .ok (.aload_n 0, 1) := by decide +kernel
theorem dX9_tear_12 : decode cX9_tear 12 = .ok (.aload_n 0, 1) := by decide +kernel
theorem dX9_tear_13 : decode cX9_tear 13 = .ok (.getfield 10, 3) := by decide +kernel
theorem dX9_tear_16 : decode cX9_tear 16 = .ok (.iload_n 1, 1) := by decide +kernel
theorem dX9_tear_17 : decode cX9_tear 17 = .ok (.iload_n 2, 1) := by decide +kernel
theorem dX9_tear_18 : decode cX9_tear 18 = .ok (.invokevirtual 97, 3) := by decide +kernel
theorem dX9_tear_21 : decode cX9_tear 21 = .ok (.invokevirtual 59, 3) := by decide +kernel
theorem dX9_tear_24 : decode cX9_tear 24 = .ok (.ireturn, 1) := by decide +kernel
theorem dX9_mend_0 : decode cX9_mend 0 = .ok (.aload_n 0, 1) := by decide +kernel
theorem dX9_mend_1 : decode cX9_mend 1 = .ok (.getfield 25, 3) := by decide +kernel
theorem dX9_mend_4 : decode cX9_mend 4 = .ok (.aload_n 0, 1) := by decide +kernel
theorem dX9_mend_5 : decode cX9_mend 5 = .ok (.getfield 10, 3) := by decide +kernel
theorem dX9_mend_8 : decode cX9_mend 8 = .ok (.invokevirtual 51, 3) := by decide +kernel
theorem dX9_mend_11 : decode cX9_mend 11 = .ok (.aload_n 0, 1) := by decide +kernel
theorem dX9_mend_12 : decode cX9_mend 12 = .ok (.aload_n 0, 1) := by decide +kernel
theorem dX9_mend_13 : decode cX9_mend 13 = .ok (.getfield 10, 3) := by decide +kernel
theorem dX9_mend_16 : decode cX9_mend 16 = .ok (.iload_n 1, 1) := by decide +kernel
theorem dX9_mend_17 : decode cX9_mend 17 = .ok (.iload_n 2, 1) := by decide +kernel
theorem dX9_mend_18 : decode cX9_mend 18 = .ok (.invokevirtual 101, 3) := by decide +kernel
theorem dX9_mend_21 : decode cX9_mend 21 = .ok (.invokevirtual 59, 3) := by decide +kernel
theorem dX9_mend_24 : decode cX9_mend 24 = .ok (.ireturn, 1) := by decide +kernel
theorem dX9_bestTub_0 : decode cX9_bestTub 0 = .ok (.aload_n 0, 1) := by decide +kernel
theorem dX9_bestTub_1 : decode cX9_bestTub 1 = .ok (.getfield 10, 3) := by decide +kernel
theorem dX9_bestTub_4 : decode cX9_bestTub 4 = .ok (.invokevirtual 104, 3) := by decide +kernel
theorem dX9_bestTub_7 : decode cX9_bestTub 7 = .ok (.istore_n 1, 1) := by decide +kernel
theorem dX9_bestTub_8 : decode cX9_bestTub 8 = .ok (.iload_n 1, 1) := by decide +kernel
theorem dX9_bestTub_9 : decode cX9_bestTub 9 = .ok (.ifCond .ge 13, 3) := by decide +kernel
theorem dX9_bestTub_12 : decode cX9_bestTub 12 = .ok (.new 92, 3) := by decide +kernel
theorem dX9_bestTub_15 : decode cX9_bestTub 15 = .ok (.dup, 1) := by decide +kernel
theorem dX9_bestTub_16 : decode cX9_bestTub 16 = .ok (.ldc 108, 2) := by decide +kernel
theorem dX9_bestTub_18 : decode cX9_bestTub 18 = .ok (.invokespecial 96, 3) := by decide +kernel
theorem dX9_bestTub_21 : decode cX9_bestTub 21 = .ok (.athrow, 1) := by decide +kernel
theorem dX9_bestTub_22 : decode cX9_bestTub 22 = .ok (.iload_n 1, 1) := by decide +kernel
theorem dX9_bestTub_23 : decode cX9_bestTub 23 = .ok (.ireturn, 1) := by decide +kernel
theorem dX9_out_0 : decode cX9_out 0 = .ok (.aload_n 0, 1) := by decide +kernel
theorem dX9_out_1 : decode cX9_out 1 = .ok (.getfield 25, 3) := by decide +kernel
theorem dX9_out_4 : decode cX9_out 4 = .ok (.aload_n 0, 1) := by decide +kernel
theorem dX9_out_5 : decode cX9_out 5 = .ok (.getfield 10, 3) := by decide +kernel
theorem dX9_out_8 : decode cX9_out 8 = .ok (.invokevirtual 51, 3) := by decide +kernel
theorem dX9_out_11 : decode cX9_out 11 = .ok (.aload_n 0, 1) := by decide +kernel
theorem dX9_out_12 : decode cX9_out 12 = .ok (.aload_n 0, 1) := by decide +kernel
theorem dX9_out_13 : decode cX9_out 13 = .ok (.getfield 10, 3) := by decide +kernel
theorem dX9_out_16 : decode cX9_out 16 = .ok (.iload_n 1, 1) := by decide +kernel
theorem dX9_out_17 : decode cX9_out 17 = .ok (.iload_n 2, 1) := by decide +kernel
theorem dX9_out_18 : decode cX9_out 18 = .ok (.invokevirtual 110, 3) := by decide +kernel
theorem dX9_out_21 : decode cX9_out 21 = .ok (.invokevirtual 59, 3) := by decide +kernel
theorem dX9_out_24 : decode cX9_out 24 = .ok (.ireturn, 1) := by decide +kernel
theorem dX9_back_0 : decode cX9_back 0 = .ok (.aload_n 0, 1) := by decide +kernel
theorem dX9_back_1 : decode cX9_back 1 = .ok (.getfield 25, 3) := by decide +kernel
theorem dX9_back_4 : decode cX9_back 4 = .ok (.aload_n 0, 1) := by decide +kernel
theorem dX9_back_5 : decode cX9_back 5 = .ok (.getfield 10, 3) := by decide +kernel
theorem dX9_back_8 : decode cX9_back 8 = .ok (.invokevirtual 51, 3) := by decide +kernel
theorem dX9_back_11 : decode cX9_back 11 = .ok (.aload_n 0, 1) := by decide +kernel
theorem dX9_back_12 : decode cX9_back 12 = .ok (.aload_n 0, 1) := by decide +kernel
theorem dX9_back_13 : decode cX9_back 13 = .ok (.getfield 10, 3) := by decide +kernel
theorem dX9_back_16 : decode cX9_back 16 = .ok (.iload_n 1, 1) := by decide +kernel
theorem dX9_back_17 : decode cX9_back 17 = .ok (.invokevirtual 113, 3) := by decide +kernel
theorem dX9_back_20 : decode cX9_back 20 = .ok (.invokevirtual 59, 3) := by decide +kernel
theorem dX9_back_23 : decode cX9_back 23 = .ok (.ireturn, 1) := by decide +kernel
theorem dX9_tent_0 : decode cX9_tent 0 = .ok (.aload_n 0, 1) := by decide +kernel
theorem dX9_tent_1 : decode cX9_tent 1 = .ok (.getfield 25, 3) := by decide +kernel
theorem dX9_tent_4 : decode cX9_tent 4 = .ok (.aload_n 0, 1) := by decide +kernel
theorem dX9_tent_5 : decode cX9_tent 5 = .ok (.getfield 10, 3) := by decide +kernel
theorem dX9_tent_8 : decode cX9_tent 8 = .ok (.invokevirtual 51, 3) := by decide +kernel
theorem dX9_tent_11 : decode cX9_tent 11 = .ok (.aload_n 0, 1) := by decide +kernel
theorem dX9_tent_12 : decode cX9_tent 12 = .ok (.aload_n 0, 1) := by decide +kernel
theorem dX9_tent_13 : decode cX9_tent 13 = .ok (.getfield 10, 3) := by decide +kernel
theorem dX9_tent_16 : decode cX9_tent 16 = .ok (.iload_n 1, 1) := by decide +kernel
theorem dX9_tent_17 : decode cX9_tent 17 = .ok (.invokevirtual 116, 3) := by decide +kernel
theorem dX9_tent_20 : decode cX9_tent 20 = .ok (.invokevirtual 59, 3) := by decide +kernel
theorem dX9_tent_23 : decode cX9_tent 23 = .ok (.ireturn, 1) := by decide +kernel
theorem dX9_tentOf_0 : decode cX9_tentOf 0 = .ok (.aload_n 0, 1) := by decide +kernel
theorem dX9_tentOf_1 : decode cX9_tentOf 1 = .ok (.getfield 10, 3) := by decide +kernel
theorem dX9_tentOf_4 : decode cX9_tentOf 4 = .ok (.iload_n 1, 1) := by decide +kernel
theorem dX9_tentOf_5 : decode cX9_tentOf 5 = .ok (.invokevirtual 119, 3) := by decide +kernel
theorem dX9_tentOf_8 : decode cX9_tentOf 8 = .ok (.astore_n 3, 1) := by decide +kernel
theorem dX9_tentOf_9 : decode cX9_tentOf 9 = .ok (.aload_n 3, 1) := by decide +kernel
theorem dX9_tentOf_10 : decode cX9_tentOf 10 = .ok (.ifnonnull 13, 3) := by decide +kernel
theorem dX9_tentOf_13 : decode cX9_tentOf 13 = .ok (.new 66, 3) := by decide +kernel
theorem dX9_tentOf_16 : decode cX9_tentOf 16 = .ok (.dup, 1) := by decide +kernel
theorem dX9_tentOf_17 : decode cX9_tentOf 17 = .ok (.ldc 123, 2) := by decide +kernel
theorem dX9_tentOf_19 : decode cX9_tentOf 19 = .ok (.invokespecial 70, 3) := by decide +kernel
theorem dX9_tentOf_22 : decode cX9_tentOf 22 = .ok (.athrow, 1) := by decide +kernel
theorem dX9_tentOf_23 : decode cX9_tentOf 23 = .ok (.iload_n 2, 1) := by decide +kernel
theorem dX9_tentOf_24 : decode cX9_tentOf 24 = .ok (.ifCond .lt 8, 3) := by decide +kernel
theorem dX9_tentOf_27 : decode cX9_tentOf 27 = .ok (.iload_n 2, 1) := by decide +kernel
theorem dX9_tentOf_28 : decode cX9_tentOf 28 = .ok (.iconst 4, 1) := by decide +kernel
theorem dX9_tentOf_29 : decode cX9_tentOf 29 = .ok (.if_icmp .le 13, 3) := by decide +kernel
theorem dX9_tentOf_32 : decode cX9_tentOf 32 = .ok (.new 73, 3) := by decide +kernel
theorem dX9_tentOf_35 : decode cX9_tentOf 35 = .ok (.dup, 1) := by decide +kernel
theorem dX9_tentOf_36 : decode cX9_tentOf 36 = .ok (.ldc 125, 2) := by decide +kernel
theorem dX9_tentOf_38 : decode cX9_tentOf 38 = .ok (.invokespecial 77, 3) := by decide +kernel
theorem dX9_tentOf_41 : decode cX9_tentOf 41 = .ok (.athrow, 1) := by decide +kernel
theorem dX9_tentOf_42 : decode cX9_tentOf 42 = .ok (.aload_n 3, 1) := by decide +kernel
theorem dX9_tentOf_43 : decode cX9_tentOf 43 = .ok (.iload_n 2, 1) := by decide +kernel
theorem dX9_tentOf_44 : decode cX9_tentOf 44 = .ok (.invokevirtual 127, 3) := by decide +kernel
theorem dX9_tentOf_47 : decode cX9_tentOf 47 = .ok (.ireturn, 1) := by decide +kernel
theorem dX9_waiting_0 : decode cX9_waiting 0 = .ok (.aload_n 0, 1) := by decide +kernel
theorem dX9_waiting_1 : decode cX9_waiting 1 = .ok (.getfield 10, 3) := by decide +kernel
theorem dX9_waiting_4 : decode cX9_waiting 4 = .ok (.iload_n 1, 1) := by decide +kernel
theorem dX9_waiting_5 : decode cX9_waiting 5 = .ok (.invokevirtual 119, 3) := by decide +kernel
theorem dX9_waiting_8 : decode cX9_waiting 8 = .ok (.astore_n 3, 1) := by decide +kernel
theorem dX9_waiting_9 : decode cX9_waiting 9 = .ok (.aload_n 3, 1) := by decide +kernel
theorem dX9_waiting_10 : decode cX9_waiting 10 = .ok (.ifnonnull 13, 3) := by decide +kernel
theorem dX9_waiting_13 : decode cX9_waiting 13 = .ok (.new 66, 3) := by decide +kernel
theorem dX9_waiting_16 : decode cX9_waiting 16 = .ok (.dup, 1) := by decide +kernel
theorem dX9_waiting_17 : decode cX9_waiting 17 = .ok (.ldc 123, 2) := by decide +kernel
theorem dX9_waiting_19 : decode cX9_waiting 19 = .ok (.invokespecial 70, 3) := by decide +kernel
theorem dX9_waiting_22 : decode cX9_waiting 22 = .ok (.athrow, 1) := by decide +kernel
theorem dX9_waiting_23 : decode cX9_waiting 23 = .ok (.aload_n 3, 1) := by decide +kernel
theorem dX9_waiting_24 : decode cX9_waiting 24 = .ok (.iload_n 2, 1) := by decide +kernel
theorem dX9_waiting_25 : decode cX9_waiting 25 = .ok (.invokevirtual 130, 3) := by decide +kernel
theorem dX9_waiting_28 : decode cX9_waiting 28 = .ok (.istore 4, 2) := by decide +kernel
theorem dX9_waiting_30 : decode cX9_waiting 30 = .ok (.iload 4, 2) := by decide +kernel
theorem dX9_waiting_32 : decode cX9_waiting 32 = .ok (.ifCond .ge 13, 3) := by decide +kernel
theorem dX9_waiting_35 : decode cX9_waiting 35 = .ok (.new 92, 3) := by decide +kernel
theorem dX9_waiting_38 : decode cX9_waiting 38 = .ok (.dup, 1) := by decide +kernel
theorem dX9_waiting_39 : decode cX9_waiting 39 = .ok (.ldc 133, 2) := by decide +kernel
theorem dX9_waiting_41 : decode cX9_waiting 41 = .ok (.invokespecial 96, 3) := by decide +kernel
theorem dX9_waiting_44 : decode cX9_waiting 44 = .ok (.athrow, 1) := by decide +kernel
theorem dX9_waiting_45 : decode cX9_waiting 45 = .ok (.iload 4, 2) := by decide +kernel
theorem dX9_waiting_47 : decode cX9_waiting 47 = .ok (.ireturn, 1) := by decide +kernel
theorem dX9_join_0 : decode cX9_join 0 = .ok (.aload_n 0, 1) := by decide +kernel
theorem dX9_join_1 : decode cX9_join 1 = .ok (.getfield 25, 3) := by decide +kernel
theorem dX9_join_4 : decode cX9_join 4 = .ok (.aload_n 0, 1) := by decide +kernel
theorem dX9_join_5 : decode cX9_join 5 = .ok (.getfield 10, 3) := by decide +kernel
theorem dX9_join_8 : decode cX9_join 8 = .ok (.invokevirtual 51, 3) := by decide +kernel
theorem dX9_join_11 : decode cX9_join 11 = .ok (.aload_n 0, 1) := by decide +kernel
theorem dX9_join_12 : decode cX9_join 12 = .ok (.aload_n 0, 1) := by decide +kernel
theorem dX9_join_13 : decode cX9_join 13 = .ok (.getfield 10, 3) := by decide +kernel
theorem dX9_join_16 : decode cX9_join 16 = .ok (.iload_n 1, 1) := by decide +kernel
theorem dX9_join_17 : decode cX9_join 17 = .ok (.invokevirtual 135, 3) := by decide +kernel
theorem dX9_join_20 : decode cX9_join 20 = .ok (.invokevirtual 59, 3) := by decide +kernel
theorem dX9_join_23 : decode cX9_join 23 = .ok (.ireturn, 1) := by decide +kernel
theorem dX9_heater_0 : decode cX9_heater 0 = .ok (.aload_n 0, 1) := by decide +kernel
theorem dX9_heater_1 : decode cX9_heater 1 = .ok (.getfield 25, 3) := by decide +kernel
theorem dX9_heater_4 : decode cX9_heater 4 = .ok (.aload_n 0, 1) := by decide +kernel
theorem dX9_heater_5 : decode cX9_heater 5 = .ok (.getfield 10, 3) := by decide +kernel
theorem dX9_heater_8 : decode cX9_heater 8 = .ok (.invokevirtual 51, 3) := by decide +kernel
theorem dX9_heater_11 : decode cX9_heater 11 = .ok (.aload_n 0, 1) := by decide +kernel
theorem dX9_heater_12 : decode cX9_heater 12 = .ok (.aload_n 0, 1) := by decide +kernel
theorem dX9_heater_13 : decode cX9_heater 13 = .ok (.getfield 10, 3) := by decide +kernel
theorem dX9_heater_16 : decode cX9_heater 16 = .ok (.invokevirtual 138, 3) := by decide +kernel
theorem dX9_heater_19 : decode cX9_heater 19 = .ok (.invokevirtual 59, 3) := by decide +kernel
theorem dX9_heater_22 : decode cX9_heater 22 = .ok (.ireturn, 1) := by decide +kernel
theorem dX9_heaterOf_0 : decode cX9_heaterOf 0 = .ok (.aload_n 0, 1) := by decide +kernel
theorem dX9_heaterOf_1 : decode cX9_heaterOf 1 = .ok (.getfield 10, 3) := by decide +kernel
theorem dX9_heaterOf_4 : decode cX9_heaterOf 4 = .ok (.iload_n 1, 1) := by decide +kernel
theorem dX9_heaterOf_5 : decode cX9_heaterOf 5 = .ok (.invokevirtual 141, 3) := by decide +kernel
theorem dX9_heaterOf_8 : decode cX9_heaterOf 8 = .ok (.astore_n 3, 1) := by decide +kernel
theorem dX9_heaterOf_9 : decode cX9_heaterOf 9 = .ok (.aload_n 3, 1) := by decide +kernel
theorem dX9_heaterOf_10 : decode cX9_heaterOf 10 = .ok (.ifnonnull 13, 3) := by decide +kernel
theorem dX9_heaterOf_13 : decode cX9_heaterOf 13 = .ok (.new 66, 3) := by decide +kernel
theorem dX9_heaterOf_16 : decode cX9_heaterOf 16 = .ok (.dup, 1) := by decide +kernel
theorem dX9_heaterOf_17 : decode cX9_heaterOf 17 = .ok (.ldc 145, 2) := by decide +kernel
theorem dX9_heaterOf_19 : decode cX9_heaterOf 19 = .ok (.invokespecial 70, 3) := by decide +kernel
theorem dX9_heaterOf_22 : decode cX9_heaterOf 22 = .ok (.athrow, 1) := by decide +kernel
theorem dX9_heaterOf_23 : decode cX9_heaterOf 23 = .ok (.iload_n 2, 1) := by decide +kernel
theorem dX9_heaterOf_24 : decode cX9_heaterOf 24 = .ok (.ifCond .eq 10, 3) := by decide +kernel
theorem dX9_heaterOf_27 : decode cX9_heaterOf 27 = .ok (.aload_n 3, 1) := by decide +kernel
theorem dX9_heaterOf_28 : decode cX9_heaterOf 28 = .ok (.getfield 147, 3) := by decide +kernel
theorem dX9_heaterOf_31 : decode cX9_heaterOf 31 = .ok (.goto 7, 3) := by decide +kernel
theorem dX9_heaterOf_34 : decode cX9_heaterOf 34 = .ok (.aload_n 3, 1) := by decide +kernel
theorem dX9_heaterOf_35 : decode cX9_heaterOf 35 = .ok (.getfield 152, 3) := by decide +kernel
theorem dX9_heaterOf_38 : decode cX9_heaterOf 38 = .ok (.ireturn, 1) := by decide +kernel
theorem dX9_heat_0 : decode cX9_heat 0 = .ok (.aload_n 0, 1) := by decide +kernel
theorem dX9_heat_1 : decode cX9_heat 1 = .ok (.getfield 25, 3) := by decide +kernel
theorem dX9_heat_4 : decode cX9_heat 4 = .ok (.aload_n 0, 1) := by decide +kernel
theorem dX9_heat_5 : decode cX9_heat 5 = .ok (.getfield 10, 3) := by decide +kernel
theorem dX9_heat_8 : decode cX9_heat 8 = .ok (.invokevirtual 51, 3) := by decide +kernel
theorem dX9_heat_11 : decode cX9_heat 11 = .ok (.aload_n 0, 1) := by decide +kernel
theorem dX9_heat_12 : decode cX9_heat 12 = .ok (.aload_n 0, 1) := by decide +kernel
theorem dX9_heat_13 : decode cX9_heat 13 = .ok (.getfield 10, 3) := by decide +kernel
theorem dX9_heat_16 : decode cX9_heat 16 = .ok (.iload_n 1, 1) := by decide +kernel
theorem dX9_heat_17 : decode cX9_heat 17 = .ok (.iload_n 2, 1) := by decide +kernel
theorem dX9_heat_18 : decode cX9_heat 18 = .ok (.invokevirtual 155, 3) := by decide +kernel
theorem dX9_heat_21 : decode cX9_heat 21 = .ok (.invokevirtual 59, 3) := by decide +kernel
theorem dX9_heat_24 : decode cX9_heat 24 = .ok (.ireturn, 1) := by decide +kernel
theorem dX9_cold_0 : decode cX9_cold 0 = .ok (.aload_n 0, 1) := by decide +kernel
theorem dX9_cold_1 : decode cX9_cold 1 = .ok (.getfield 25, 3) := by decide +kernel
theorem dX9_cold_4 : decode cX9_cold 4 = .ok (.aload_n 0, 1) := by decide +kernel
theorem dX9_cold_5 : decode cX9_cold 5 = .ok (.getfield 10, 3) := by decide +kernel
theorem dX9_cold_8 : decode cX9_cold 8 = .ok (.invokevirtual 51, 3) := by decide +kernel
theorem dX9_cold_11 : decode cX9_cold 11 = .ok (.aload_n 0, 1) := by decide +kernel
theorem dX9_cold_12 : decode cX9_cold 12 = .ok (.aload_n 0, 1) := by decide +kernel
theorem dX9_cold_13 : decode cX9_cold 13 = .ok (.getfield 10, 3) := by decide +kernel
theorem dX9_cold_16 : decode cX9_cold 16 = .ok (.iload_n 1, 1) := by decide +kernel
theorem dX9_cold_17 : decode cX9_cold 17 = .ok (.invokevirtual 158, 3) := by decide +kernel
theorem dX9_cold_20 : decode cX9_cold 20 = .ok (.invokevirtual 59, 3) := by decide +kernel
theorem dX9_cold_23 : decode cX9_cold 23 = .ok (.ireturn, 1) := by decide +kernel
theorem dX9_gas_0 : decode cX9_gas 0 = .ok (.aload_n 0, 1) := by decide +kernel
theorem dX9_gas_1 : decode cX9_gas 1 = .ok (.getfield 25, 3) := by decide +kernel
theorem dX9_gas_4 : decode cX9_gas 4 = .ok (.aload_n 0, 1) := by decide +kernel
theorem dX9_gas_5 : decode cX9_gas 5 = .ok (.getfield 10, 3) := by decide +kernel
theorem dX9_gas_8 : decode cX9_gas 8 = .ok (.invokevirtual 51, 3) := by decide +kernel
theorem dX9_gas_11 : decode cX9_gas 11 = .ok (.aload_n 0, 1) := by decide +kernel
theorem dX9_gas_12 : decode cX9_gas 12 = .ok (.aload_n 0, 1) := by decide +kernel
theorem dX9_gas_13 : decode cX9_gas 13 = .ok (.getfield 10, 3) := by decide +kernel
theorem dX9_gas_16 : decode cX9_gas 16 = .ok (.iload_n 1, 1) := by decide +kernel
theorem dX9_gas_17 : decode cX9_gas 17 = .ok (.iload_n 2, 1) := by decide +kernel
theorem dX9_gas_18 : decode cX9_gas 18 = .ok (.invokevirtual 161, 3) := by decide +kernel
theorem dX9_gas_21 : decode cX9_gas 21 = .ok (.invokevirtual 59, 3) := by decide +kernel
theorem dX9_gas_24 : decode cX9_gas 24 = .ok (.ireturn, 1) := by decide +kernel
theorem dX9_wash_0 : decode cX9_wash 0 = .ok (.aload_n 0, 1) := by decide +kernel
theorem dX9_wash_1 : decode cX9_wash 1 = .ok (.getfield 25, 3) := by decide +kernel
theorem dX9_wash_4 : decode cX9_wash 4 = .ok (.aload_n 0, 1) := by decide +kernel
theorem dX9_wash_5 : decode cX9_wash 5 = .ok (.getfield 10, 3) := by decide +kernel
theorem dX9_wash_8 : decode cX9_wash 8 = .ok (.invokevirtual 51, 3) := by decide +kernel
theorem dX9_wash_11 : decode cX9_wash 11 = .ok (.aload_n 0, 1) := by decide +kernel
theorem dX9_wash_12 : decode cX9_wash 12 = .ok (.aload_n 0, 1) := by decide +kernel
theorem dX9_wash_13 : decode cX9_wash 13 = .ok (.getfield 10, 3) := by decide +kernel
theorem dX9_wash_16 : decode cX9_wash 16 = .ok (.iload_n 1, 1) := by decide +kernel
theorem dX9_wash_17 : decode cX9_wash 17 = .ok (.invokevirtual 164, 3) := by decide +kernel
theorem dX9_wash_20 : decode cX9_wash 20 = .ok (.invokevirtual 59, 3) := by decide +kernel
theorem dX9_wash_23 : decode cX9_wash 23 = .ok (.ireturn, 1) := by decide +kernel
theorem dX9_soap_0 : decode cX9_soap 0 = .ok (.aload_n 0, 1) := by decide +kernel
theorem dX9_soap_1 : decode cX9_soap 1 = .ok (.getfield 25, 3) := by decide +kernel
theorem dX9_soap_4 : decode cX9_soap 4 = .ok (.aload_n 0, 1) := by decide +kernel
theorem dX9_soap_5 : decode cX9_soap 5 = .ok (.getfield 10, 3) := by decide +kernel
theorem dX9_soap_8 : decode cX9_soap 8 = .ok (.invokevirtual 51, 3) := by decide +kernel
theorem dX9_soap_11 : decode cX9_soap 11 = .ok (.aload_n 0, 1) := by decide +kernel
theorem dX9_soap_12 : decode cX9_soap 12 = .ok (.aload_n 0, 1) := by decide +kernel
theorem dX9_soap_13 : decode cX9_soap 13 = .ok (.getfield 10, 3) := by decide +kernel
theorem dX9_soap_16 : decode cX9_soap 16 = .ok (.iload_n 1, 1) := by decide +kernel
theorem dX9_soap_17 : decode cX9_soap 17 = .ok (.invokevirtual 167, 3) := by decide +kernel
theorem dX9_soap_20 : decode cX9_soap 20 = .ok (.invokevirtual 59, 3) := by decide +kernel
theorem dX9_soap_23 : decode cX9_soap 23 = .ok (.ireturn, 1) := by decide +kernel
theorem dX9_pass_0 : decode cX9_pass 0 = .ok (.aload_n 0, 1) := by decide +kernel
theorem dX9_pass_1 : decode cX9_pass 1 = .ok (.getfield 25, 3) := by decide +kernel
theorem dX9_pass_4 : decode cX9_pass 4 = .ok (.aload_n 0, 1) := by decide +kernel
theorem dX9_pass_5 : decode cX9_pass 5 = .ok (.getfield 10, 3) := by decide +kernel
theorem dX9_pass_8 : decode cX9_pass 8 = .ok (.invokevirtual 51, 3) := by decide +kernel
theorem dX9_pass_11 : decode cX9_pass 11 = .ok (.aload_n 0, 1) := by decide +kernel
theorem dX9_pass_12 : decode cX9_pass 12 = .ok (.aload_n 0, 1) := by decide +kernel
theorem dX9_pass_13 : decode cX9_pass 13 = .ok (.getfield 10, 3) := by decide +kernel
theorem dX9_pass_16 : decode cX9_pass 16 = .ok (.iload_n 1, 1) := by decide +kernel
theorem dX9_pass_17 : decode cX9_pass 17 = .ok (.invokevirtual 170, 3) := by decide +kernel
theorem dX9_pass_20 : decode cX9_pass 20 = .ok (.invokevirtual 59, 3) := by decide +kernel
theorem dX9_pass_23 : decode cX9_pass 23 = .ok (.ireturn, 1) := by decide +kernel
theorem dX9_heatsIn_0 : decode cX9_heatsIn 0 = .ok (.iload_n 1, 1) := by decide +kernel
theorem dX9_heatsIn_1 : decode cX9_heatsIn 1 = .ok (.iload_n 2, 1) := by decide +kernel
theorem dX9_heatsIn_2 : decode cX9_heatsIn 2 = .ok (.invokestatic 173, 3) := by decide +kernel
theorem dX9_heatsIn_5 : decode cX9_heatsIn 5 = .ok (.iload_n 2, 1) := by decide +kernel
theorem dX9_heatsIn_6 : decode cX9_heatsIn 6 = .ok (.istore_n 3, 1) := by decide +kernel
theorem dX9_heatsIn_7 : decode cX9_heatsIn 7 = .ok (.iconst 0, 1) := by decide +kernel
theorem dX9_heatsIn_8 : decode cX9_heatsIn 8 = .ok (.istore 4, 2) := by decide +kernel
theorem dX9_heatsIn_10 : decode cX9_heatsIn 10 = .ok (.iload_n 3, 1) := by decide +kernel
theorem dX9_heatsIn_11 : decode cX9_heatsIn 11 = .ok (.bipush 38, 2) := by decide +kernel
theorem dX9_heatsIn_13 : decode cX9_heatsIn 13 = .ok (.if_icmp .ge 22, 3) := by decide +kernel
theorem dX9_heatsIn_16 : decode cX9_heatsIn 16 = .ok (.iload 4, 2) := by decide +kernel
theorem dX9_heatsIn_18 : decode cX9_heatsIn 18 = .ok (.bipush 60, 2) := by decide +kernel
theorem dX9_heatsIn_20 : decode cX9_heatsIn 20 = .ok (.if_icmp .ge 15, 3) := by decide +kernel
theorem dX9_heatsIn_23 : decode cX9_heatsIn 23 = .ok (.iload_n 1, 1) := by decide +kernel
theorem dX9_heatsIn_24 : decode cX9_heatsIn 24 = .ok (.iload_n 3, 1) := by decide +kernel
theorem dX9_heatsIn_25 : decode cX9_heatsIn 25 = .ok (.invokestatic 177, 3) := by decide +kernel
theorem dX9_heatsIn_28 : decode cX9_heatsIn 28 = .ok (.istore_n 3, 1) := by decide +kernel
theorem dX9_heatsIn_29 : decode cX9_heatsIn 29 = .ok (.iinc 4 1, 3) := by decide +kernel
theorem dX9_heatsIn_32 : decode cX9_heatsIn 32 = .ok (.goto (-22), 3) := by decide +kernel
theorem dX9_heatsIn_35 : decode cX9_heatsIn 35 = .ok (.iload 4, 2) := by decide +kernel
theorem dX9_heatsIn_37 : decode cX9_heatsIn 37 = .ok (.ireturn, 1) := by decide +kernel
theorem dX9_heatsAgain_0 : decode cX9_heatsAgain 0 = .ok (.iload_n 1, 1) := by decide +kernel
theorem dX9_heatsAgain_1 : decode cX9_heatsAgain 1 = .ok (.iload_n 2, 1) := by decide +kernel
theorem dX9_heatsAgain_2 : decode cX9_heatsAgain 2 = .ok (.invokestatic 173, 3) := by decide +kernel
theorem dX9_heatsAgain_5 : decode cX9_heatsAgain 5 = .ok (.bipush 38, 2) := by decide +kernel
theorem dX9_heatsAgain_7 : decode cX9_heatsAgain 7 = .ok (.iload_n 2, 1) := by decide +kernel
theorem dX9_heatsAgain_8 : decode cX9_heatsAgain 8 = .ok (.isub, 1) := by decide +kernel
theorem dX9_heatsAgain_9 : decode cX9_heatsAgain 9 = .ok (.istore_n 3, 1) := by decide +kernel
theorem dX9_heatsAgain_10 : decode cX9_heatsAgain 10 = .ok (.iload_n 1, 1) := by decide +kernel
theorem dX9_heatsAgain_11 : decode cX9_heatsAgain 11 = .ok (.invokestatic 180, 3) := by decide +kernel
theorem dX9_heatsAgain_14 : decode cX9_heatsAgain 14 = .ok (.istore 4, 2) := by decide +kernel
theorem dX9_heatsAgain_16 : decode cX9_heatsAgain 16 = .ok (.iload_n 3, 1) := by decide +kernel
theorem dX9_heatsAgain_17 : decode cX9_heatsAgain 17 = .ok (.ifCond .le 8, 3) := by decide +kernel
theorem dX9_heatsAgain_20 : decode cX9_heatsAgain 20 = .ok (.iload 4, 2) := by decide +kernel
theorem dX9_heatsAgain_22 : decode cX9_heatsAgain 22 = .ok (.ifCond .gt 7, 3) := by decide +kernel
theorem dX9_heatsAgain_25 : decode cX9_heatsAgain 25 = .ok (.iconst 0, 1) := by decide +kernel
theorem dX9_heatsAgain_26 : decode cX9_heatsAgain 26 = .ok (.goto 12, 3) := by decide +kernel
theorem dX9_heatsAgain_29 : decode cX9_heatsAgain 29 = .ok (.iload_n 3, 1) := by decide +kernel
theorem dX9_heatsAgain_30 : decode cX9_heatsAgain 30 = .ok (.iload 4, 2) := by decide +kernel
theorem dX9_heatsAgain_32 : decode cX9_heatsAgain 32 = .ok (.iadd, 1) := by decide +kernel
theorem dX9_heatsAgain_33 : decode cX9_heatsAgain 33 = .ok (.iconst 1, 1) := by decide +kernel
theorem dX9_heatsAgain_34 : decode cX9_heatsAgain 34 = .ok (.isub, 1) := by decide +kernel
theorem dX9_heatsAgain_35 : decode cX9_heatsAgain 35 = .ok (.iload 4, 2) := by decide +kernel
theorem dX9_heatsAgain_37 : decode cX9_heatsAgain 37 = .ok (.idiv, 1) := by decide +kernel
theorem dX9_heatsAgain_38 : decode cX9_heatsAgain 38 = .ok (.ireturn, 1) := by decide +kernel
theorem dX9_bathesIn_0 : decode cX9_bathesIn 0 = .ok (.aload_n 0, 1) := by decide +kernel
theorem dX9_bathesIn_1 : decode cX9_bathesIn 1 = .ok (.getfield 10, 3) := by decide +kernel
theorem dX9_bathesIn_4 : decode cX9_bathesIn 4 = .ok (.iload_n 1, 1) := by decide +kernel
theorem dX9_bathesIn_5 : decode cX9_bathesIn 5 = .ok (.invokevirtual 183, 3) := by decide +kernel
theorem dX9_bathesIn_8 : decode cX9_bathesIn 8 = .ok (.ifCond .eq 11, 3) := by decide +kernel
theorem dX9_bathesIn_11 : decode cX9_bathesIn 11 = .ok (.aload_n 0, 1) := by decide +kernel
theorem dX9_bathesIn_12 : decode cX9_bathesIn 12 = .ok (.iload_n 1, 1) := by decide +kernel
theorem dX9_bathesIn_13 : decode cX9_bathesIn 13 = .ok (.invokevirtual 186, 3) := by decide +kernel
theorem dX9_bathesIn_16 : decode cX9_bathesIn 16 = .ok (.goto 4, 3) := by decide +kernel
theorem dX9_bathesIn_19 : decode cX9_bathesIn 19 = .ok (.iconst (-1), 1) := by decide +kernel
theorem dX9_bathesIn_20 : decode cX9_bathesIn 20 = .ok (.istore_n 2, 1) := by decide +kernel
theorem dX9_bathesIn_21 : decode cX9_bathesIn 21 = .ok (.iload_n 2, 1) := by decide +kernel
theorem dX9_bathesIn_22 : decode cX9_bathesIn 22 = .ok (.ifCond .ge 13, 3) := by decide +kernel
theorem dX9_bathesIn_25 : decode cX9_bathesIn 25 = .ok (.new 92, 3) := by decide +kernel
theorem dX9_bathesIn_28 : decode cX9_bathesIn 28 = .ok (.dup, 1) := by decide +kernel
theorem dX9_bathesIn_29 : decode cX9_bathesIn 29 = .ok (.ldc 189, 2) := by decide +kernel
theorem dX9_bathesIn_31 : decode cX9_bathesIn 31 = .ok (.invokespecial 96, 3) := by decide +kernel
theorem dX9_bathesIn_34 : decode cX9_bathesIn 34 = .ok (.athrow, 1) := by decide +kernel
theorem dX9_bathesIn_35 : decode cX9_bathesIn 35 = .ok (.iload_n 2, 1) := by decide +kernel
theorem dX9_bathesIn_36 : decode cX9_bathesIn 36 = .ok (.ireturn, 1) := by decide +kernel
theorem dX9_line_0 : decode cX9_line 0 = .ok (.aload_n 0, 1) := by decide +kernel
theorem dX9_line_1 : decode cX9_line 1 = .ok (.getfield 10, 3) := by decide +kernel
theorem dX9_line_4 : decode cX9_line 4 = .ok (.iload_n 1, 1) := by decide +kernel
theorem dX9_line_5 : decode cX9_line 5 = .ok (.invokevirtual 119, 3) := by decide +kernel
theorem dX9_line_8 : decode cX9_line 8 = .ok (.astore_n 2, 1) := by decide +kernel
theorem dX9_line_9 : decode cX9_line 9 = .ok (.aload_n 2, 1) := by decide +kernel
theorem dX9_line_10 : decode cX9_line 10 = .ok (.ifnonnull 13, 3) := by decide +kernel
theorem dX9_line_13 : decode cX9_line 13 = .ok (.new 66, 3) := by decide +kernel
theorem dX9_line_16 : decode cX9_line 16 = .ok (.dup, 1) := by decide +kernel
theorem dX9_line_17 : decode cX9_line 17 = .ok (.ldc 123, 2) := by decide +kernel
theorem dX9_line_19 : decode cX9_line 19 = .ok (.invokespecial 70, 3) := by decide +kernel
theorem dX9_line_22 : decode cX9_line 22 = .ok (.athrow, 1) := by decide +kernel
theorem dX9_line_23 : decode cX9_line 23 = .ok (.aload_n 0, 1) := by decide +kernel
theorem dX9_line_24 : decode cX9_line 24 = .ok (.getfield 39, 3) := by decide +kernel
theorem dX9_line_27 : decode cX9_line 27 = .ok (.iconst 0, 1) := by decide +kernel
theorem dX9_line_28 : decode cX9_line 28 = .ok (.invokevirtual 191, 3) := by decide +kernel
theorem dX9_line_31 : decode cX9_line 31 = .ok (.aload_n 0, 1) := by decide +kernel
theorem dX9_line_32 : decode cX9_line 32 = .ok (.getfield 39, 3) := by decide +kernel
theorem dX9_line_35 : decode cX9_line 35 = .ok (.iload_n 1, 1) := by decide +kernel
theorem dX9_line_36 : decode cX9_line 36 = .ok (.invokevirtual 195, 3) := by decide +kernel
theorem dX9_line_39 : decode cX9_line 39 = .ok (.bipush 58, 2) := by decide +kernel
theorem dX9_line_41 : decode cX9_line 41 = .ok (.invokevirtual 199, 3) := by decide +kernel
theorem dX9_line_44 : decode cX9_line 44 = .ok (.pop, 1) := by decide +kernel
theorem dX9_line_45 : decode cX9_line 45 = .ok (.aload_n 0, 1) := by decide +kernel
theorem dX9_line_46 : decode cX9_line 46 = .ok (.aload_n 2, 1) := by decide +kernel
theorem dX9_line_47 : decode cX9_line 47 = .ok (.getfield 202, 3) := by decide +kernel
theorem dX9_line_50 : decode cX9_line 50 = .ok (.invokevirtual 205, 3) := by decide +kernel
theorem dX9_line_53 : decode cX9_line 53 = .ok (.aload_n 0, 1) := by decide +kernel
theorem dX9_line_54 : decode cX9_line 54 = .ok (.getfield 10, 3) := by decide +kernel
theorem dX9_line_57 : decode cX9_line 57 = .ok (.aload_n 2, 1) := by decide +kernel
theorem dX9_line_58 : decode cX9_line 58 = .ok (.getfield 208, 3) := by decide +kernel
theorem dX9_line_61 : decode cX9_line 61 = .ok (.invokevirtual 141, 3) := by decide +kernel
theorem dX9_line_64 : decode cX9_line 64 = .ok (.astore_n 3, 1) := by decide +kernel
theorem dX9_line_65 : decode cX9_line 65 = .ok (.aload_n 3, 1) := by decide +kernel
theorem dX9_line_66 : decode cX9_line 66 = .ok (.ifnull 20, 3) := by decide +kernel
theorem dX9_line_69 : decode cX9_line 69 = .ok (.aload_n 0, 1) := by decide +kernel
theorem dX9_line_70 : decode cX9_line 70 = .ok (.getfield 39, 3) := by decide +kernel
theorem dX9_line_73 : decode cX9_line 73 = .ok (.ldc 211, 2) := by decide +kernel
theorem dX9_line_75 : decode cX9_line 75 = .ok (.invokevirtual 213, 3) := by decide +kernel
theorem dX9_line_78 : decode cX9_line 78 = .ok (.aload_n 3, 1) := by decide +kernel
theorem dX9_line_79 : decode cX9_line 79 = .ok (.getfield 147, 3) := by decide +kernel
theorem dX9_line_82 : decode cX9_line 82 = .ok (.invokevirtual 195, 3) := by decide +kernel
theorem dX9_line_85 : decode cX9_line 85 = .ok (.pop, 1) := by decide +kernel
theorem dX9_line_86 : decode cX9_line 86 = .ok (.aload_n 2, 1) := by decide +kernel
theorem dX9_line_87 : decode cX9_line 87 = .ok (.getfield 216, 3) := by decide +kernel
theorem dX9_line_90 : decode cX9_line 90 = .ok (.ifCond .le 20, 3) := by decide +kernel
theorem dX9_line_93 : decode cX9_line 93 = .ok (.aload_n 0, 1) := by decide +kernel
theorem dX9_line_94 : decode cX9_line 94 = .ok (.getfield 39, 3) := by decide +kernel
theorem dX9_line_97 : decode cX9_line 97 = .ok (.ldc 219, 2) := by decide +kernel
theorem dX9_line_99 : decode cX9_line 99 = .ok (.invokevirtual 213, 3) := by decide +kernel
theorem dX9_line_102 : decode cX9_line 102 = .ok (.aload_n 2, 1) := by decide +kernel
theorem dX9_line_103 : decode cX9_line 103 = .ok (.getfield 216, 3) := by decide +kernel
theorem dX9_line_106 : decode cX9_line 106 = .ok (.invokevirtual 195, 3) := by decide +kernel
theorem dX9_line_109 : decode cX9_line 109 = .ok (.pop, 1) := by decide +kernel
theorem dX9_line_110 : decode cX9_line 110 = .ok (.aload_n 0, 1) := by decide +kernel
theorem dX9_line_111 : decode cX9_line 111 = .ok (.getfield 39, 3) := by decide +kernel
theorem dX9_line_114 : decode cX9_line 114 = .ok (.invokevirtual 221, 3) := by decide +kernel
theorem dX9_line_117 : decode cX9_line 117 = .ok (.ireturn, 1) := by decide +kernel
theorem dX9_character_0 : decode cX9_character 0 = .ok (.iload_n 1, 1) := by decide +kernel
theorem dX9_character_1 : decode cX9_character 1 = .ok (.ifCond .lt 14, 3) := by decide +kernel
theorem dX9_character_4 : decode cX9_character 4 = .ok (.iload_n 1, 1) := by decide +kernel
theorem dX9_character_5 : decode cX9_character 5 = .ok (.aload_n 0, 1) := by decide +kernel
theorem dX9_character_6 : decode cX9_character 6 = .ok (.getfield 39, 3) := by decide +kernel
theorem dX9_character_9 : decode cX9_character 9 = .ok (.invokevirtual 221, 3) := by decide +kernel
theorem dX9_character_12 : decode cX9_character 12 = .ok (.if_icmp .lt 13, 3) := by decide +kernel
theorem dX9_character_15 : decode cX9_character 15 = .ok (.new 66, 3) := by decide +kernel
theorem dX9_character_18 : decode cX9_character 18 = .ok (.dup, 1) := by decide +kernel
theorem dX9_character_19 : decode cX9_character 19 = .ok (.ldc 224, 2) := by decide +kernel
theorem dX9_character_21 : decode cX9_character 21 = .ok (.invokespecial 70, 3) := by decide +kernel
theorem dX9_character_24 : decode cX9_character 24 = .ok (.athrow, 1) := by decide +kernel
theorem dX9_character_25 : decode cX9_character 25 = .ok (.aload_n 0, 1) := by decide +kernel
theorem dX9_character_26 : decode cX9_character 26 = .ok (.getfield 39, 3) := by decide +kernel
theorem dX9_character_29 : decode cX9_character 29 = .ok (.iload_n 1, 1) := by decide +kernel
theorem dX9_character_30 : decode cX9_character 30 = .ok (.invokevirtual 226, 3) := by decide +kernel
theorem dX9_character_33 : decode cX9_character 33 = .ok (.ireturn, 1) := by decide +kernel
theorem dX9_number_0 : decode cX9_number 0 = .ok (.iload_n 1, 1) := by decide +kernel
theorem dX9_number_1 : decode cX9_number 1 = .ok (.ifCond .lt 9, 3) := by decide +kernel
theorem dX9_number_4 : decode cX9_number 4 = .ok (.iload_n 1, 1) := by decide +kernel
theorem dX9_number_5 : decode cX9_number 5 = .ok (.bipush 16, 2) := by decide +kernel
theorem dX9_number_7 : decode cX9_number 7 = .ok (.if_icmp .le 13, 3) := by decide +kernel
theorem dX9_number_10 : decode cX9_number 10 = .ok (.new 73, 3) := by decide +kernel
theorem dX9_number_13 : decode cX9_number 13 = .ok (.dup, 1) := by decide +kernel
theorem dX9_number_14 : decode cX9_number 14 = .ok (.ldc 230, 2) := by decide +kernel
theorem dX9_number_16 : decode cX9_number 16 = .ok (.invokespecial 77, 3) := by decide +kernel
theorem dX9_number_19 : decode cX9_number 19 = .ok (.athrow, 1) := by decide +kernel
theorem dX9_number_20 : decode cX9_number 20 = .ok (.iload_n 1, 1) := by decide +kernel
theorem dX9_number_21 : decode cX9_number 21 = .ok (.bipush 15, 2) := by decide +kernel
theorem dX9_number_23 : decode cX9_number 23 = .ok (.if_icmp .ne 11, 3) := by decide +kernel
theorem dX9_number_26 : decode cX9_number 26 = .ok (.aload_n 0, 1) := by decide +kernel
theorem dX9_number_27 : decode cX9_number 27 = .ok (.getfield 25, 3) := by decide +kernel
theorem dX9_number_30 : decode cX9_number 30 = .ok (.getfield 232, 3) := by decide +kernel
theorem dX9_number_33 : decode cX9_number 33 = .ok (.ireturn, 1) := by decide +kernel
theorem dX9_number_34 : decode cX9_number 34 = .ok (.iload_n 1, 1) := by decide +kernel
theorem dX9_number_35 : decode cX9_number 35 = .ok (.bipush 16, 2) := by decide +kernel
theorem dX9_number_37 : decode cX9_number 37 = .ok (.if_icmp .ne 13, 3) := by decide +kernel
theorem dX9_number_40 : decode cX9_number 40 = .ok (.aload_n 0, 1) := by decide +kernel
theorem dX9_number_41 : decode cX9_number 41 = .ok (.getfield 32, 3) := by decide +kernel
theorem dX9_number_44 : decode cX9_number 44 = .ok (.getfield 235, 3) := by decide +kernel
theorem dX9_number_47 : decode cX9_number 47 = .ok (.goto 11, 3) := by decide +kernel
theorem dX9_number_50 : decode cX9_number 50 = .ok (.aload_n 0, 1) := by decide +kernel
theorem dX9_number_51 : decode cX9_number 51 = .ok (.getfield 10, 3) := by decide +kernel
theorem dX9_number_54 : decode cX9_number 54 = .ok (.iload_n 1, 1) := by decide +kernel
theorem dX9_number_55 : decode cX9_number 55 = .ok (.invokevirtual 237, 3) := by decide +kernel
theorem dX9_number_58 : decode cX9_number 58 = .ok (.ireturn, 1) := by decide +kernel
theorem dX9_towels_0 : decode cX9_towels 0 = .ok (.aload_n 0, 1) := by decide +kernel
theorem dX9_towels_1 : decode cX9_towels 1 = .ok (.getfield 10, 3) := by decide +kernel
theorem dX9_towels_4 : decode cX9_towels 4 = .ok (.getfield 238, 3) := by decide +kernel
theorem dX9_towels_7 : decode cX9_towels 7 = .ok (.aload_n 0, 1) := by decide +kernel
theorem dX9_towels_8 : decode cX9_towels 8 = .ok (.getfield 10, 3) := by decide +kernel
theorem dX9_towels_11 : decode cX9_towels 11 = .ok (.getfield 241, 3) := by decide +kernel
theorem dX9_towels_14 : decode cX9_towels 14 = .ok (.iadd, 1) := by decide +kernel
theorem dX9_towels_15 : decode cX9_towels 15 = .ok (.aload_n 0, 1) := by decide +kernel
theorem dX9_towels_16 : decode cX9_towels 16 = .ok (.getfield 10, 3) := by decide +kernel
theorem dX9_towels_19 : decode cX9_towels 19 = .ok (.getfield 244, 3) := by decide +kernel
theorem dX9_towels_22 : decode cX9_towels 22 = .ok (.aload_n 0, 1) := by decide +kernel
theorem dX9_towels_23 : decode cX9_towels 23 = .ok (.getfield 10, 3) := by decide +kernel
theorem dX9_towels_26 : decode cX9_towels 26 = .ok (.getfield 247, 3) := by decide +kernel
theorem dX9_towels_29 : decode cX9_towels 29 = .ok (.isub, 1) := by decide +kernel
theorem dX9_towels_30 : decode cX9_towels 30 = .ok (.iadd, 1) := by decide +kernel
theorem dX9_towels_31 : decode cX9_towels 31 = .ok (.ireturn, 1) := by decide +kernel
theorem dX9_meanWarmth_0 : decode cX9_meanWarmth 0 = .ok (.iconst 0, 1) := by decide +kernel
theorem dX9_meanWarmth_1 : decode cX9_meanWarmth 1 = .ok (.istore_n 1, 1) := by decide +kernel
theorem dX9_meanWarmth_2 : decode cX9_meanWarmth 2 = .ok (.iconst 0, 1) := by decide +kernel
theorem dX9_meanWarmth_3 : decode cX9_meanWarmth 3 = .ok (.istore_n 2, 1) := by decide +kernel
theorem dX9_meanWarmth_4 : decode cX9_meanWarmth 4 = .ok (.iconst 0, 1) := by decide +kernel
theorem dX9_meanWarmth_5 : decode cX9_meanWarmth 5 = .ok (.istore_n 3, 1) := by decide +kernel
theorem dX9_meanWarmth_6 : decode cX9_meanWarmth 6 = .ok (.iload_n 3, 1) := by decide +kernel
theorem dX9_meanWarmth_7 : decode cX9_meanWarmth 7 = .ok (.aload_n 0, 1) := by decide +kernel
theorem dX9_meanWarmth_8 : decode cX9_meanWarmth 8 = .ok (.getfield 10, 3) := by decide +kernel
theorem dX9_meanWarmth_11 : decode cX9_meanWarmth 11 = .ok (.getfield 250, 3) := by decide +kernel
theorem dX9_meanWarmth_14 : decode cX9_meanWarmth 14 = .ok (.if_icmp .ge 43, 3) := by decide +kernel
theorem dX9_meanWarmth_17 : decode cX9_meanWarmth 17 = .ok (.aload_n 0, 1) := by decide +kernel
theorem dX9_meanWarmth_18 : decode cX9_meanWarmth 18 = .ok (.getfield 10, 3) := by decide +kernel
theorem dX9_meanWarmth_21 : decode cX9_meanWarmth 21 = .ok (.iload_n 3, 1) := by decide +kernel
theorem dX9_meanWarmth_22 : decode cX9_meanWarmth 22 = .ok (.invokevirtual 62, 3) := by decide +kernel
theorem dX9_meanWarmth_25 : decode cX9_meanWarmth 25 = .ok (.astore 4, 2) := by decide +kernel
theorem dX9_meanWarmth_27 : decode cX9_meanWarmth 27 = .ok (.aload 4, 2) := by decide +kernel
theorem dX9_meanWarmth_29 : decode cX9_meanWarmth 29 = .ok (.ifnull 22, 3) := by decide +kernel
theorem dX9_meanWarmth_32 : decode cX9_meanWarmth 32 = .ok (.aload 4, 2) := by decide +kernel
theorem dX9_meanWarmth_34 : decode cX9_meanWarmth 34 = .ok (.getfield 253, 3) := by decide +kernel
theorem dX9_meanWarmth_37 : decode cX9_meanWarmth 37 = .ok (.ifCond .le 14, 3) := by decide +kernel
theorem dX9_meanWarmth_40 : decode cX9_meanWarmth 40 = .ok (.iinc 1 1, 3) := by decide +kernel
theorem dX9_meanWarmth_43 : decode cX9_meanWarmth 43 = .ok (.iload_n 2, 1) := by decide +kernel
theorem dX9_meanWarmth_44 : decode cX9_meanWarmth 44 = .ok (.aload 4, 2) := by decide +kernel
theorem dX9_meanWarmth_46 : decode cX9_meanWarmth 46 = .ok (.getfield 256, 3) := by decide +kernel
theorem dX9_meanWarmth_49 : decode cX9_meanWarmth 49 = .ok (.iadd, 1) := by decide +kernel
theorem dX9_meanWarmth_50 : decode cX9_meanWarmth 50 = .ok (.istore_n 2, 1) := by decide +kernel
theorem dX9_meanWarmth_51 : decode cX9_meanWarmth 51 = .ok (.iinc 3 1, 3) := by decide +kernel
theorem dX9_meanWarmth_54 : decode cX9_meanWarmth 54 = .ok (.goto (-48), 3) := by decide +kernel
theorem dX9_meanWarmth_57 : decode cX9_meanWarmth 57 = .ok (.iload_n 1, 1) := by decide +kernel
theorem dX9_meanWarmth_58 : decode cX9_meanWarmth 58 = .ok (.ifCond .ne 14, 3) := by decide +kernel
theorem dX9_meanWarmth_61 : decode cX9_meanWarmth 61 = .ok (.new 259, 3) := by decide +kernel
theorem dX9_meanWarmth_64 : decode cX9_meanWarmth 64 = .ok (.dup, 1) := by decide +kernel
theorem dX9_meanWarmth_65 : decode cX9_meanWarmth 65 = .ok (.ldc_w 261, 3) := by decide +kernel
theorem dX9_meanWarmth_68 : decode cX9_meanWarmth 68 = .ok (.invokespecial 263, 3) := by decide +kernel
theorem dX9_meanWarmth_71 : decode cX9_meanWarmth 71 = .ok (.athrow, 1) := by decide +kernel
theorem dX9_meanWarmth_72 : decode cX9_meanWarmth 72 = .ok (.iload_n 2, 1) := by decide +kernel
theorem dX9_meanWarmth_73 : decode cX9_meanWarmth 73 = .ok (.i2d, 1) := by decide +kernel
theorem dX9_meanWarmth_74 : decode cX9_meanWarmth 74 = .ok (.iload_n 1, 1) := by decide +kernel
theorem dX9_meanWarmth_75 : decode cX9_meanWarmth 75 = .ok (.i2d, 1) := by decide +kernel
theorem dX9_meanWarmth_76 : decode cX9_meanWarmth 76 = .ok (.ddiv, 1) := by decide +kernel
theorem dX9_meanWarmth_77 : decode cX9_meanWarmth 77 = .ok (.dreturn, 1) := by decide +kernel
theorem dX9_bathedShare_0 : decode cX9_bathedShare 0 = .ok (.aload_n 0, 1) := by decide +kernel
theorem dX9_bathedShare_1 : decode cX9_bathedShare 1 = .ok (.getfield 10, 3) := by decide +kernel
theorem dX9_bathedShare_4 : decode cX9_bathedShare 4 = .ok (.getfield 244, 3) := by decide +kernel
theorem dX9_bathedShare_7 : decode cX9_bathedShare 7 = .ok (.ifCond .ne 14, 3) := by decide +kernel
theorem dX9_bathedShare_10 : decode cX9_bathedShare 10 = .ok (.new 259, 3) := by decide +kernel
theorem dX9_bathedShare_13 : decode cX9_bathedShare 13 = .ok (.dup, 1) := by decide +kernel
theorem dX9_bathedShare_14 : decode cX9_bathedShare 14 = .ok (.ldc_w 264, 3) := by decide +kernel
theorem dX9_bathedShare_17 : decode cX9_bathedShare 17 = .ok (.invokespecial 263, 3) := by decide +kernel
theorem dX9_bathedShare_20 : decode cX9_bathedShare 20 = .ok (.athrow, 1) := by decide +kernel
theorem dX9_bathedShare_21 : decode cX9_bathedShare 21 = .ok (.aload_n 0, 1) := by decide +kernel
theorem dX9_bathedShare_22 : decode cX9_bathedShare 22 = .ok (.getfield 10, 3) := by decide +kernel
theorem dX9_bathedShare_25 : decode cX9_bathedShare 25 = .ok (.getfield 247, 3) := by decide +kernel
theorem dX9_bathedShare_28 : decode cX9_bathedShare 28 = .ok (.i2f, 1) := by decide +kernel
theorem dX9_bathedShare_29 : decode cX9_bathedShare 29 = .ok (.aload_n 0, 1) := by decide +kernel
theorem dX9_bathedShare_30 : decode cX9_bathedShare 30 = .ok (.getfield 10, 3) := by decide +kernel
theorem dX9_bathedShare_33 : decode cX9_bathedShare 33 = .ok (.getfield 244, 3) := by decide +kernel
theorem dX9_bathedShare_36 : decode cX9_bathedShare 36 = .ok (.i2f, 1) := by decide +kernel
theorem dX9_bathedShare_37 : decode cX9_bathedShare 37 = .ok (.fdiv, 1) := by decide +kernel
theorem dX9_bathedShare_38 : decode cX9_bathedShare 38 = .ok (.freturn, 1) := by decide +kernel
theorem dX9_feed_0 : decode cX9_feed 0 = .ok (.aload_n 0, 1) := by decide +kernel
theorem dX9_feed_1 : decode cX9_feed 1 = .ok (.getfield 32, 3) := by decide +kernel
theorem dX9_feed_4 : decode cX9_feed 4 = .ok (.iload_n 1, 1) := by decide +kernel
theorem dX9_feed_5 : decode cX9_feed 5 = .ok (.invokevirtual 266, 3) := by decide +kernel
theorem dX9_feed_8 : decode cX9_feed 8 = .ok (.ifCond .ne 14, 3) := by decide +kernel
theorem dX9_feed_11 : decode cX9_feed 11 = .ok (.new 270, 3) := by decide +kernel
theorem dX9_feed_14 : decode cX9_feed 14 = .ok (.dup, 1) := by decide +kernel
theorem dX9_feed_15 : decode cX9_feed 15 = .ok (.ldc_w 272, 3) := by decide +kernel
theorem dX9_feed_18 : decode cX9_feed 18 = .ok (.invokespecial 274, 3) := by decide +kernel
theorem dX9_feed_21 : decode cX9_feed 21 = .ok (.athrow, 1) := by decide +kernel
theorem dX9_feed_22 : decode cX9_feed 22 = .ok (.aload_n 0, 1) := by decide +kernel
theorem dX9_feed_23 : decode cX9_feed 23 = .ok (.getfield 32, 3) := by decide +kernel
theorem dX9_feed_26 : decode cX9_feed 26 = .ok (.getfield 235, 3) := by decide +kernel
theorem dX9_feed_29 : decode cX9_feed 29 = .ok (.ireturn, 1) := by decide +kernel
theorem dX9_read_0 : decode cX9_read 0 = .ok (.aload_n 0, 1) := by decide +kernel
theorem dX9_read_1 : decode cX9_read 1 = .ok (.getfield 32, 3) := by decide +kernel
theorem dX9_read_4 : decode cX9_read 4 = .ok (.invokevirtual 275, 3) := by decide +kernel
theorem dX9_read_7 : decode cX9_read 7 = .ok (.istore_n 1, 1) := by decide +kernel
end
section
theorem dX9_read_8 : decode cX9_read 8 = .ok (.iload_n 1, 1) := by decide +kernel
theorem dX9_read_9 : decode cX9_read 9 = .ok (.ifCond .lt 27, 3) := by decide +kernel
theorem dX9_read_12 : decode cX9_read 12 = .ok (.aload_n 0, 1) := by decide +kernel
theorem dX9_read_13 : decode cX9_read 13 = .ok (.iload_n 1, 1) := by decide +kernel
theorem dX9_read_14 : decode cX9_read 14 = .ok (.putfield 47, 3) := by decide +kernel
theorem dX9_read_17 : decode cX9_read 17 = .ok (.aload_n 0, 1) := by decide +kernel
theorem dX9_read_18 : decode cX9_read 18 = .ok (.getfield 32, 3) := by decide +kernel
theorem dX9_read_21 : decode cX9_read 21 = .ok (.iconst 0, 1) := by decide +kernel
theorem dX9_read_22 : decode cX9_read 22 = .ok (.putfield 235, 3) := by decide +kernel
theorem dX9_read_25 : decode cX9_read 25 = .ok (.new 73, 3) := by decide +kernel
theorem dX9_read_28 : decode cX9_read 28 = .ok (.dup, 1) := by decide +kernel
theorem dX9_read_29 : decode cX9_read 29 = .ok (.ldc_w 278, 3) := by decide +kernel
theorem dX9_read_32 : decode cX9_read 32 = .ok (.invokespecial 77, 3) := by decide +kernel
theorem dX9_read_35 : decode cX9_read 35 = .ok (.athrow, 1) := by decide +kernel
theorem dX9_read_36 : decode cX9_read 36 = .ok (.aload_n 0, 1) := by decide +kernel
theorem dX9_read_37 : decode cX9_read 37 = .ok (.getfield 25, 3) := by decide +kernel
theorem dX9_read_40 : decode cX9_read 40 = .ok (.aload_n 0, 1) := by decide +kernel
theorem dX9_read_41 : decode cX9_read 41 = .ok (.getfield 10, 3) := by decide +kernel
theorem dX9_read_44 : decode cX9_read 44 = .ok (.invokevirtual 51, 3) := by decide +kernel
theorem dX9_read_47 : decode cX9_read 47 = .ok (.aload_n 0, 1) := by decide +kernel
theorem dX9_read_48 : decode cX9_read 48 = .ok (.invokevirtual 280, 3) := by decide +kernel
theorem dX9_read_51 : decode cX9_read 51 = .ok (.istore_n 2, 1) := by decide +kernel
theorem dX9_read_52 : decode cX9_read 52 = .ok (.aload_n 0, 1) := by decide +kernel
theorem dX9_read_53 : decode cX9_read 53 = .ok (.getfield 32, 3) := by decide +kernel
theorem dX9_read_56 : decode cX9_read 56 = .ok (.iconst 0, 1) := by decide +kernel
theorem dX9_read_57 : decode cX9_read 57 = .ok (.putfield 235, 3) := by decide +kernel
theorem dX9_read_60 : decode cX9_read 60 = .ok (.iload_n 2, 1) := by decide +kernel
theorem dX9_read_61 : decode cX9_read 61 = .ok (.ifCond .ge 25, 3) := by decide +kernel
theorem dX9_read_64 : decode cX9_read 64 = .ok (.aload_n 0, 1) := by decide +kernel
theorem dX9_read_65 : decode cX9_read 65 = .ok (.getfield 25, 3) := by decide +kernel
theorem dX9_read_68 : decode cX9_read 68 = .ok (.aload_n 0, 1) := by decide +kernel
theorem dX9_read_69 : decode cX9_read 69 = .ok (.getfield 10, 3) := by decide +kernel
theorem dX9_read_72 : decode cX9_read 72 = .ok (.invokevirtual 283, 3) := by decide +kernel
theorem dX9_read_75 : decode cX9_read 75 = .ok (.new 286, 3) := by decide +kernel
theorem dX9_read_78 : decode cX9_read 78 = .ok (.dup, 1) := by decide +kernel
theorem dX9_read_79 : decode cX9_read 79 = .ok (.ldc_w 288, 3) := by decide +kernel
theorem dX9_read_82 : decode cX9_read 82 = .ok (.invokespecial 290, 3) := by decide +kernel
theorem dX9_read_85 : decode cX9_read 85 = .ok (.athrow, 1) := by decide +kernel
theorem dX9_read_86 : decode cX9_read 86 = .ok (.aload_n 0, 1) := by decide +kernel
theorem dX9_read_87 : decode cX9_read 87 = .ok (.getfield 25, 3) := by decide +kernel
theorem dX9_read_90 : decode cX9_read 90 = .ok (.invokevirtual 291, 3) := by decide +kernel
theorem dX9_read_93 : decode cX9_read 93 = .ok (.iload_n 2, 1) := by decide +kernel
theorem dX9_read_94 : decode cX9_read 94 = .ok (.ireturn, 1) := by decide +kernel
theorem dX9_faultPosition_0 : decode cX9_faultPosition 0 = .ok (.aload_n 0, 1) := by decide +kernel
theorem dX9_faultPosition_1 : decode cX9_faultPosition 1 = .ok (.getfield 47, 3) := by decide +kernel
theorem dX9_faultPosition_4 : decode cX9_faultPosition 4 = .ok (.ifCond .ge 14, 3) := by decide +kernel
theorem dX9_faultPosition_7 : decode cX9_faultPosition 7 = .ok (.new 92, 3) := by decide +kernel
theorem dX9_faultPosition_10 : decode cX9_faultPosition 10 = .ok (.dup, 1) := by decide +kernel
theorem dX9_faultPosition_11 : decode cX9_faultPosition 11 = .ok (.ldc_w 294, 3) := by decide +kernel
theorem dX9_faultPosition_14 : decode cX9_faultPosition 14 = .ok (.invokespecial 96, 3) := by decide +kernel
theorem dX9_faultPosition_17 : decode cX9_faultPosition 17 = .ok (.athrow, 1) := by decide +kernel
theorem dX9_faultPosition_18 : decode cX9_faultPosition 18 = .ok (.aload_n 0, 1) := by decide +kernel
theorem dX9_faultPosition_19 : decode cX9_faultPosition 19 = .ok (.getfield 47, 3) := by decide +kernel
theorem dX9_faultPosition_22 : decode cX9_faultPosition 22 = .ok (.ireturn, 1) := by decide +kernel
theorem dX9_refusal_0 : decode cX9_refusal 0 = .ok (.aload_n 0, 1) := by decide +kernel
theorem dX9_refusal_1 : decode cX9_refusal 1 = .ok (.getfield 10, 3) := by decide +kernel
theorem dX9_refusal_4 : decode cX9_refusal 4 = .ok (.getfield 296, 3) := by decide +kernel
theorem dX9_refusal_7 : decode cX9_refusal 7 = .ok (.getfield 300, 3) := by decide +kernel
theorem dX9_refusal_10 : decode cX9_refusal 10 = .ok (.ifCond .ne 14, 3) := by decide +kernel
theorem dX9_refusal_13 : decode cX9_refusal 13 = .ok (.new 92, 3) := by decide +kernel
theorem dX9_refusal_16 : decode cX9_refusal 16 = .ok (.dup, 1) := by decide +kernel
theorem dX9_refusal_17 : decode cX9_refusal 17 = .ok (.ldc_w 305, 3) := by decide +kernel
theorem dX9_refusal_20 : decode cX9_refusal 20 = .ok (.invokespecial 96, 3) := by decide +kernel
theorem dX9_refusal_23 : decode cX9_refusal 23 = .ok (.athrow, 1) := by decide +kernel
theorem dX9_refusal_24 : decode cX9_refusal 24 = .ok (.iload_n 1, 1) := by decide +kernel
theorem dX9_refusal_25 : decode cX9_refusal 25 = .ok (.ifCond .eq 16, 3) := by decide +kernel
theorem dX9_refusal_28 : decode cX9_refusal 28 = .ok (.aload_n 0, 1) := by decide +kernel
theorem dX9_refusal_29 : decode cX9_refusal 29 = .ok (.getfield 10, 3) := by decide +kernel
theorem dX9_refusal_32 : decode cX9_refusal 32 = .ok (.getfield 296, 3) := by decide +kernel
theorem dX9_refusal_35 : decode cX9_refusal 35 = .ok (.getfield 300, 3) := by decide +kernel
theorem dX9_refusal_38 : decode cX9_refusal 38 = .ok (.goto 13, 3) := by decide +kernel
theorem dX9_refusal_41 : decode cX9_refusal 41 = .ok (.aload_n 0, 1) := by decide +kernel
theorem dX9_refusal_42 : decode cX9_refusal 42 = .ok (.getfield 10, 3) := by decide +kernel
theorem dX9_refusal_45 : decode cX9_refusal 45 = .ok (.getfield 296, 3) := by decide +kernel
theorem dX9_refusal_48 : decode cX9_refusal 48 = .ok (.getfield 307, 3) := by decide +kernel
theorem dX9_refusal_51 : decode cX9_refusal 51 = .ok (.ireturn, 1) := by decide +kernel
theorem dX9_undo_0 : decode cX9_undo 0 = .ok (.aload_n 0, 1) := by decide +kernel
theorem dX9_undo_1 : decode cX9_undo 1 = .ok (.getfield 25, 3) := by decide +kernel
theorem dX9_undo_4 : decode cX9_undo 4 = .ok (.getfield 232, 3) := by decide +kernel
theorem dX9_undo_7 : decode cX9_undo 7 = .ok (.ifCond .ne 14, 3) := by decide +kernel
theorem dX9_undo_10 : decode cX9_undo 10 = .ok (.new 270, 3) := by decide +kernel
theorem dX9_undo_13 : decode cX9_undo 13 = .ok (.dup, 1) := by decide +kernel
theorem dX9_undo_14 : decode cX9_undo 14 = .ok (.ldc_w 310, 3) := by decide +kernel
theorem dX9_undo_17 : decode cX9_undo 17 = .ok (.invokespecial 274, 3) := by decide +kernel
theorem dX9_undo_20 : decode cX9_undo 20 = .ok (.athrow, 1) := by decide +kernel
theorem dX9_undo_21 : decode cX9_undo 21 = .ok (.aload_n 0, 1) := by decide +kernel
theorem dX9_undo_22 : decode cX9_undo 22 = .ok (.getfield 25, 3) := by decide +kernel
theorem dX9_undo_25 : decode cX9_undo 25 = .ok (.aload_n 0, 1) := by decide +kernel
theorem dX9_undo_26 : decode cX9_undo 26 = .ok (.getfield 10, 3) := by decide +kernel
theorem dX9_undo_29 : decode cX9_undo 29 = .ok (.invokevirtual 312, 3) := by decide +kernel
theorem dX9_undo_32 : decode cX9_undo 32 = .ok (.aload_n 0, 1) := by decide +kernel
theorem dX9_undo_33 : decode cX9_undo 33 = .ok (.getfield 25, 3) := by decide +kernel
theorem dX9_undo_36 : decode cX9_undo 36 = .ok (.getfield 232, 3) := by decide +kernel
theorem dX9_undo_39 : decode cX9_undo 39 = .ok (.ireturn, 1) := by decide +kernel
theorem dX9_saveSnapshot_0 : decode cX9_saveSnapshot 0 = .ok (.aload_n 0, 1) := by decide +kernel
theorem dX9_saveSnapshot_1 : decode cX9_saveSnapshot 1 = .ok (.getfield 19, 3) := by decide +kernel
theorem dX9_saveSnapshot_4 : decode cX9_saveSnapshot 4 = .ok (.aload_n 0, 1) := by decide +kernel
theorem dX9_saveSnapshot_5 : decode cX9_saveSnapshot 5 = .ok (.getfield 10, 3) := by decide +kernel
theorem dX9_saveSnapshot_8 : decode cX9_saveSnapshot 8 = .ok (.invokevirtual 315, 3) := by decide +kernel
theorem dX9_saveSnapshot_11 : decode cX9_saveSnapshot 11 = .ok (.aload_n 0, 1) := by decide +kernel
theorem dX9_saveSnapshot_12 : decode cX9_saveSnapshot 12 = .ok (.iconst 1, 1) := by decide +kernel
theorem dX9_saveSnapshot_13 : decode cX9_saveSnapshot 13 = .ok (.putfield 43, 3) := by decide +kernel
theorem dX9_saveSnapshot_16 : decode cX9_saveSnapshot 16 = .ok (.aload_n 0, 1) := by decide +kernel
theorem dX9_saveSnapshot_17 : decode cX9_saveSnapshot 17 = .ok (.getfield 10, 3) := by decide +kernel
theorem dX9_saveSnapshot_20 : decode cX9_saveSnapshot 20 = .ok (.getfield 250, 3) := by decide +kernel
theorem dX9_saveSnapshot_23 : decode cX9_saveSnapshot 23 = .ok (.ireturn, 1) := by decide +kernel
theorem dX9_restoreSnapshot_0 : decode cX9_restoreSnapshot 0 = .ok (.aload_n 0, 1) := by decide +kernel
theorem dX9_restoreSnapshot_1 : decode cX9_restoreSnapshot 1 = .ok (.getfield 43, 3) := by decide +kernel
theorem dX9_restoreSnapshot_4 : decode cX9_restoreSnapshot 4 = .ok (.ifCond .ne 14, 3) := by decide +kernel
theorem dX9_restoreSnapshot_7 : decode cX9_restoreSnapshot 7 = .ok (.new 270, 3) := by decide +kernel
theorem dX9_restoreSnapshot_10 : decode cX9_restoreSnapshot 10 = .ok (.dup, 1) := by decide +kernel
theorem dX9_restoreSnapshot_11 : decode cX9_restoreSnapshot 11 = .ok (.ldc_w 318, 3) := by decide +kernel
theorem dX9_restoreSnapshot_14 : decode cX9_restoreSnapshot 14 = .ok (.invokespecial 274, 3) := by decide +kernel
theorem dX9_restoreSnapshot_17 : decode cX9_restoreSnapshot 17 = .ok (.athrow, 1) := by decide +kernel
theorem dX9_restoreSnapshot_18 : decode cX9_restoreSnapshot 18 = .ok (.aload_n 0, 1) := by decide +kernel
theorem dX9_restoreSnapshot_19 : decode cX9_restoreSnapshot 19 = .ok (.getfield 10, 3) := by decide +kernel
theorem dX9_restoreSnapshot_22 : decode cX9_restoreSnapshot 22 = .ok (.aload_n 0, 1) := by decide +kernel
theorem dX9_restoreSnapshot_23 : decode cX9_restoreSnapshot 23 = .ok (.getfield 19, 3) := by decide +kernel
theorem dX9_restoreSnapshot_26 : decode cX9_restoreSnapshot 26 = .ok (.invokevirtual 315, 3) := by decide +kernel
theorem dX9_restoreSnapshot_29 : decode cX9_restoreSnapshot 29 = .ok (.aload_n 0, 1) := by decide +kernel
theorem dX9_restoreSnapshot_30 : decode cX9_restoreSnapshot 30 = .ok (.getfield 25, 3) := by decide +kernel
theorem dX9_restoreSnapshot_33 : decode cX9_restoreSnapshot 33 = .ok (.iconst 0, 1) := by decide +kernel
theorem dX9_restoreSnapshot_34 : decode cX9_restoreSnapshot 34 = .ok (.putfield 232, 3) := by decide +kernel
theorem dX9_restoreSnapshot_37 : decode cX9_restoreSnapshot 37 = .ok (.aload_n 0, 1) := by decide +kernel
theorem dX9_restoreSnapshot_38 : decode cX9_restoreSnapshot 38 = .ok (.getfield 10, 3) := by decide +kernel
theorem dX9_restoreSnapshot_41 : decode cX9_restoreSnapshot 41 = .ok (.getfield 250, 3) := by decide +kernel
theorem dX9_restoreSnapshot_44 : decode cX9_restoreSnapshot 44 = .ok (.ireturn, 1) := by decide +kernel
theorem dX9_settled_0 : decode cX9_settled 0 = .ok (.iload_n 1, 1) := by decide +kernel
theorem dX9_settled_1 : decode cX9_settled 1 = .ok (.bipush (-2), 2) := by decide +kernel
theorem dX9_settled_3 : decode cX9_settled 3 = .ok (.if_icmp .ne 13, 3) := by decide +kernel
theorem dX9_settled_6 : decode cX9_settled 6 = .ok (.new 66, 3) := by decide +kernel
theorem dX9_settled_9 : decode cX9_settled 9 = .ok (.dup, 1) := by decide +kernel
theorem dX9_settled_10 : decode cX9_settled 10 = .ok (.ldc 230, 2) := by decide +kernel
theorem dX9_settled_12 : decode cX9_settled 12 = .ok (.invokespecial 70, 3) := by decide +kernel
theorem dX9_settled_15 : decode cX9_settled 15 = .ok (.athrow, 1) := by decide +kernel
theorem dX9_settled_16 : decode cX9_settled 16 = .ok (.iload_n 1, 1) := by decide +kernel
theorem dX9_settled_17 : decode cX9_settled 17 = .ok (.bipush (-3), 2) := by decide +kernel
theorem dX9_settled_19 : decode cX9_settled 19 = .ok (.if_icmp .ne 14, 3) := by decide +kernel
theorem dX9_settled_22 : decode cX9_settled 22 = .ok (.new 73, 3) := by decide +kernel
theorem dX9_settled_25 : decode cX9_settled 25 = .ok (.dup, 1) := by decide +kernel
theorem dX9_settled_26 : decode cX9_settled 26 = .ok (.ldc_w 320, 3) := by decide +kernel
theorem dX9_settled_29 : decode cX9_settled 29 = .ok (.invokespecial 77, 3) := by decide +kernel
theorem dX9_settled_32 : decode cX9_settled 32 = .ok (.athrow, 1) := by decide +kernel
theorem dX9_settled_33 : decode cX9_settled 33 = .ok (.iload_n 1, 1) := by decide +kernel
theorem dX9_settled_34 : decode cX9_settled 34 = .ok (.iconst (-1), 1) := by decide +kernel
theorem dX9_settled_35 : decode cX9_settled 35 = .ok (.if_icmp .ne 14, 3) := by decide +kernel
theorem dX9_settled_38 : decode cX9_settled 38 = .ok (.new 286, 3) := by decide +kernel
theorem dX9_settled_41 : decode cX9_settled 41 = .ok (.dup, 1) := by decide +kernel
theorem dX9_settled_42 : decode cX9_settled 42 = .ok (.ldc_w 322, 3) := by decide +kernel
theorem dX9_settled_45 : decode cX9_settled 45 = .ok (.invokespecial 290, 3) := by decide +kernel
theorem dX9_settled_48 : decode cX9_settled 48 = .ok (.athrow, 1) := by decide +kernel
theorem dX9_settled_49 : decode cX9_settled 49 = .ok (.aload_n 0, 1) := by decide +kernel
theorem dX9_settled_50 : decode cX9_settled 50 = .ok (.getfield 25, 3) := by decide +kernel
theorem dX9_settled_53 : decode cX9_settled 53 = .ok (.invokevirtual 291, 3) := by decide +kernel
theorem dX9_settled_56 : decode cX9_settled 56 = .ok (.iload_n 1, 1) := by decide +kernel
theorem dX9_settled_57 : decode cX9_settled 57 = .ok (.ireturn, 1) := by decide +kernel
theorem dX9_requireWater_0 : decode cX9_requireWater 0 = .ok (.iload_n 0, 1) := by decide +kernel
theorem dX9_requireWater_1 : decode cX9_requireWater 1 = .ok (.invokestatic 324, 3) := by decide +kernel
theorem dX9_requireWater_4 : decode cX9_requireWater 4 = .ok (.ifCond .eq 15, 3) := by decide +kernel
theorem dX9_requireWater_7 : decode cX9_requireWater 7 = .ok (.iload_n 1, 1) := by decide +kernel
theorem dX9_requireWater_8 : decode cX9_requireWater 8 = .ok (.bipush 10, 2) := by decide +kernel
theorem dX9_requireWater_10 : decode cX9_requireWater 10 = .ok (.if_icmp .lt 9, 3) := by decide +kernel
theorem dX9_requireWater_13 : decode cX9_requireWater 13 = .ok (.iload_n 1, 1) := by decide +kernel
theorem dX9_requireWater_14 : decode cX9_requireWater 14 = .ok (.bipush 60, 2) := by decide +kernel
theorem dX9_requireWater_16 : decode cX9_requireWater 16 = .ok (.if_icmp .le 14, 3) := by decide +kernel
theorem dX9_requireWater_19 : decode cX9_requireWater 19 = .ok (.new 73, 3) := by decide +kernel
theorem dX9_requireWater_22 : decode cX9_requireWater 22 = .ok (.dup, 1) := by decide +kernel
theorem dX9_requireWater_23 : decode cX9_requireWater 23 = .ok (.ldc_w 327, 3) := by decide +kernel
theorem dX9_requireWater_26 : decode cX9_requireWater 26 = .ok (.invokespecial 77, 3) := by decide +kernel
theorem dX9_requireWater_29 : decode cX9_requireWater 29 = .ok (.athrow, 1) := by decide +kernel
theorem dX9_requireWater_30 : decode cX9_requireWater 30 = .ok (.return_, 1) := by decide +kernel
theorem dX9_hoursUntilBath_0 : decode cX9_hoursUntilBath 0 = .ok (.aload_n 0, 1) := by decide +kernel
theorem dX9_hoursUntilBath_1 : decode cX9_hoursUntilBath 1 = .ok (.getfield 16, 3) := by decide +kernel
theorem dX9_hoursUntilBath_4 : decode cX9_hoursUntilBath 4 = .ok (.aload_n 0, 1) := by decide +kernel
theorem dX9_hoursUntilBath_5 : decode cX9_hoursUntilBath 5 = .ok (.getfield 10, 3) := by decide +kernel
theorem dX9_hoursUntilBath_8 : decode cX9_hoursUntilBath 8 = .ok (.invokevirtual 315, 3) := by decide +kernel
theorem dX9_hoursUntilBath_11 : decode cX9_hoursUntilBath 11 = .ok (.iconst 1, 1) := by decide +kernel
theorem dX9_hoursUntilBath_12 : decode cX9_hoursUntilBath 12 = .ok (.istore_n 2, 1) := by decide +kernel
theorem dX9_hoursUntilBath_13 : decode cX9_hoursUntilBath 13 = .ok (.iload_n 2, 1) := by decide +kernel
theorem dX9_hoursUntilBath_14 : decode cX9_hoursUntilBath 14 = .ok (.bipush 60, 2) := by decide +kernel
theorem dX9_hoursUntilBath_16 : decode cX9_hoursUntilBath 16 = .ok (.if_icmp .gt 31, 3) := by decide +kernel
theorem dX9_hoursUntilBath_19 : decode cX9_hoursUntilBath 19 = .ok (.aload_n 0, 1) := by decide +kernel
theorem dX9_hoursUntilBath_20 : decode cX9_hoursUntilBath 20 = .ok (.getfield 16, 3) := by decide +kernel
theorem dX9_hoursUntilBath_23 : decode cX9_hoursUntilBath 23 = .ok (.iconst 1, 1) := by decide +kernel
theorem dX9_hoursUntilBath_24 : decode cX9_hoursUntilBath 24 = .ok (.invokevirtual 170, 3) := by decide +kernel
theorem dX9_hoursUntilBath_27 : decode cX9_hoursUntilBath 27 = .ok (.pop, 1) := by decide +kernel
theorem dX9_hoursUntilBath_28 : decode cX9_hoursUntilBath 28 = .ok (.aload_n 0, 1) := by decide +kernel
theorem dX9_hoursUntilBath_29 : decode cX9_hoursUntilBath 29 = .ok (.getfield 16, 3) := by decide +kernel
theorem dX9_hoursUntilBath_32 : decode cX9_hoursUntilBath 32 = .ok (.iload_n 1, 1) := by decide +kernel
theorem dX9_hoursUntilBath_33 : decode cX9_hoursUntilBath 33 = .ok (.invokevirtual 183, 3) := by decide +kernel
theorem dX9_hoursUntilBath_36 : decode cX9_hoursUntilBath 36 = .ok (.ifCond .ne 5, 3) := by decide +kernel
theorem dX9_hoursUntilBath_39 : decode cX9_hoursUntilBath 39 = .ok (.iload_n 2, 1) := by decide +kernel
theorem dX9_hoursUntilBath_40 : decode cX9_hoursUntilBath 40 = .ok (.ireturn, 1) := by decide +kernel
theorem dX9_hoursUntilBath_41 : decode cX9_hoursUntilBath 41 = .ok (.iinc 2 1, 3) := by decide +kernel
theorem dX9_hoursUntilBath_44 : decode cX9_hoursUntilBath 44 = .ok (.goto (-31), 3) := by decide +kernel
theorem dX9_hoursUntilBath_47 : decode cX9_hoursUntilBath 47 = .ok (.iconst (-1), 1) := by decide +kernel
theorem dX9_hoursUntilBath_48 : decode cX9_hoursUntilBath 48 = .ok (.ireturn, 1) := by decide +kernel
theorem dX9_appendTub_0 : decode cX9_appendTub 0 = .ok (.aload_n 0, 1) := by decide +kernel
theorem dX9_appendTub_1 : decode cX9_appendTub 1 = .ok (.getfield 10, 3) := by decide +kernel
theorem dX9_appendTub_4 : decode cX9_appendTub 4 = .ok (.iload_n 1, 1) := by decide +kernel
theorem dX9_appendTub_5 : decode cX9_appendTub 5 = .ok (.invokevirtual 62, 3) := by decide +kernel
theorem dX9_appendTub_8 : decode cX9_appendTub 8 = .ok (.astore_n 2, 1) := by decide +kernel
theorem dX9_appendTub_9 : decode cX9_appendTub 9 = .ok (.aload_n 2, 1) := by decide +kernel
theorem dX9_appendTub_10 : decode cX9_appendTub 10 = .ok (.ifnonnull 15, 3) := by decide +kernel
theorem dX9_appendTub_13 : decode cX9_appendTub 13 = .ok (.aload_n 0, 1) := by decide +kernel
theorem dX9_appendTub_14 : decode cX9_appendTub 14 = .ok (.getfield 39, 3) := by decide +kernel
theorem dX9_appendTub_17 : decode cX9_appendTub 17 = .ok (.ldc_w 329, 3) := by decide +kernel
theorem dX9_appendTub_20 : decode cX9_appendTub 20 = .ok (.invokevirtual 213, 3) := by decide +kernel
theorem dX9_appendTub_23 : decode cX9_appendTub 23 = .ok (.pop, 1) := by decide +kernel
theorem dX9_appendTub_24 : decode cX9_appendTub 24 = .ok (.return_, 1) := by decide +kernel
theorem dX9_appendTub_25 : decode cX9_appendTub 25 = .ok (.aload_n 0, 1) := by decide +kernel
theorem dX9_appendTub_26 : decode cX9_appendTub 26 = .ok (.getfield 39, 3) := by decide +kernel
theorem dX9_appendTub_29 : decode cX9_appendTub 29 = .ok (.bipush 32, 2) := by decide +kernel
theorem dX9_appendTub_31 : decode cX9_appendTub 31 = .ok (.invokevirtual 199, 3) := by decide +kernel
theorem dX9_appendTub_34 : decode cX9_appendTub 34 = .ok (.iload_n 1, 1) := by decide +kernel
theorem dX9_appendTub_35 : decode cX9_appendTub 35 = .ok (.invokevirtual 195, 3) := by decide +kernel
theorem dX9_appendTub_38 : decode cX9_appendTub 38 = .ok (.bipush 32, 2) := by decide +kernel
theorem dX9_appendTub_40 : decode cX9_appendTub 40 = .ok (.invokevirtual 199, 3) := by decide +kernel
theorem dX9_appendTub_43 : decode cX9_appendTub 43 = .ok (.aload_n 2, 1) := by decide +kernel
theorem dX9_appendTub_44 : decode cX9_appendTub 44 = .ok (.getfield 253, 3) := by decide +kernel
theorem dX9_appendTub_47 : decode cX9_appendTub 47 = .ok (.invokevirtual 195, 3) := by decide +kernel
theorem dX9_appendTub_50 : decode cX9_appendTub 50 = .ok (.bipush 108, 2) := by decide +kernel
theorem dX9_appendTub_52 : decode cX9_appendTub 52 = .ok (.invokevirtual 199, 3) := by decide +kernel
theorem dX9_appendTub_55 : decode cX9_appendTub 55 = .ok (.pop, 1) := by decide +kernel
theorem dX9_appendTub_56 : decode cX9_appendTub 56 = .ok (.aload_n 2, 1) := by decide +kernel
theorem dX9_appendTub_57 : decode cX9_appendTub 57 = .ok (.getfield 253, 3) := by decide +kernel
theorem dX9_appendTub_60 : decode cX9_appendTub 60 = .ok (.ifCond .le 43, 3) := by decide +kernel
theorem dX9_appendTub_63 : decode cX9_appendTub 63 = .ok (.aload_n 0, 1) := by decide +kernel
theorem dX9_appendTub_64 : decode cX9_appendTub 64 = .ok (.getfield 39, 3) := by decide +kernel
theorem dX9_appendTub_67 : decode cX9_appendTub 67 = .ok (.bipush 32, 2) := by decide +kernel
theorem dX9_appendTub_69 : decode cX9_appendTub 69 = .ok (.invokevirtual 199, 3) := by decide +kernel
theorem dX9_appendTub_72 : decode cX9_appendTub 72 = .ok (.aload_n 2, 1) := by decide +kernel
theorem dX9_appendTub_73 : decode cX9_appendTub 73 = .ok (.getfield 256, 3) := by decide +kernel
theorem dX9_appendTub_76 : decode cX9_appendTub 76 = .ok (.invokevirtual 195, 3) := by decide +kernel
theorem dX9_appendTub_79 : decode cX9_appendTub 79 = .ok (.bipush 99, 2) := by decide +kernel
theorem dX9_appendTub_81 : decode cX9_appendTub 81 = .ok (.invokevirtual 199, 3) := by decide +kernel
theorem dX9_appendTub_84 : decode cX9_appendTub 84 = .ok (.pop, 1) := by decide +kernel
theorem dX9_appendTub_85 : decode cX9_appendTub 85 = .ok (.aload_n 2, 1) := by decide +kernel
theorem dX9_appendTub_86 : decode cX9_appendTub 86 = .ok (.getfield 331, 3) := by decide +kernel
theorem dX9_appendTub_89 : decode cX9_appendTub 89 = .ok (.ifCond .eq 14, 3) := by decide +kernel
theorem dX9_appendTub_92 : decode cX9_appendTub 92 = .ok (.aload_n 0, 1) := by decide +kernel
theorem dX9_appendTub_93 : decode cX9_appendTub 93 = .ok (.getfield 39, 3) := by decide +kernel
theorem dX9_appendTub_96 : decode cX9_appendTub 96 = .ok (.ldc_w 334, 3) := by decide +kernel
theorem dX9_appendTub_99 : decode cX9_appendTub 99 = .ok (.invokevirtual 213, 3) := by decide +kernel
theorem dX9_appendTub_102 : decode cX9_appendTub 102 = .ok (.pop, 1) := by decide +kernel
theorem dX9_appendTub_103 : decode cX9_appendTub 103 = .ok (.return_, 1) := by decide +kernel
theorem dX9_carriedOut_0 : decode cX9_carriedOut 0 = .ok (.aload_n 0, 1) := by decide +kernel
theorem dX9_carriedOut_1 : decode cX9_carriedOut 1 = .ok (.getfield 32, 3) := by decide +kernel
theorem dX9_carriedOut_4 : decode cX9_carriedOut 4 = .ok (.iconst 0, 1) := by decide +kernel
theorem dX9_carriedOut_5 : decode cX9_carriedOut 5 = .ok (.putfield 336, 3) := by decide +kernel
theorem dX9_carriedOut_8 : decode cX9_carriedOut 8 = .ok (.iconst 0, 1) := by decide +kernel
theorem dX9_carriedOut_9 : decode cX9_carriedOut 9 = .ok (.istore_n 1, 1) := by decide +kernel
theorem dX9_carriedOut_10 : decode cX9_carriedOut 10 = .ok (.iload_n 1, 1) := by decide +kernel
theorem dX9_carriedOut_11 : decode cX9_carriedOut 11 = .ok (.bipush 60, 2) := by decide +kernel
theorem dX9_carriedOut_13 : decode cX9_carriedOut 13 = .ok (.if_icmp .ge 80, 3) := by decide +kernel
theorem dX9_carriedOut_16 : decode cX9_carriedOut 16 = .ok (.aload_n 0, 1) := by decide +kernel
theorem dX9_carriedOut_17 : decode cX9_carriedOut 17 = .ok (.getfield 32, 3) := by decide +kernel
theorem dX9_carriedOut_20 : decode cX9_carriedOut 20 = .ok (.invokevirtual 339, 3) := by decide +kernel
theorem dX9_carriedOut_23 : decode cX9_carriedOut 23 = .ok (.ifCond .eq 70, 3) := by decide +kernel
theorem dX9_carriedOut_26 : decode cX9_carriedOut 26 = .ok (.aload_n 0, 1) := by decide +kernel
theorem dX9_carriedOut_27 : decode cX9_carriedOut 27 = .ok (.aload_n 0, 1) := by decide +kernel
theorem dX9_carriedOut_28 : decode cX9_carriedOut 28 = .ok (.getfield 32, 3) := by decide +kernel
theorem dX9_carriedOut_31 : decode cX9_carriedOut 31 = .ok (.getfield 343, 3) := by decide +kernel
theorem dX9_carriedOut_34 : decode cX9_carriedOut 34 = .ok (.aload_n 0, 1) := by decide +kernel
theorem dX9_carriedOut_35 : decode cX9_carriedOut 35 = .ok (.getfield 32, 3) := by decide +kernel
theorem dX9_carriedOut_38 : decode cX9_carriedOut 38 = .ok (.getfield 347, 3) := by decide +kernel
theorem dX9_carriedOut_41 : decode cX9_carriedOut 41 = .ok (.aload_n 0, 1) := by decide +kernel
theorem dX9_carriedOut_42 : decode cX9_carriedOut 42 = .ok (.getfield 32, 3) := by decide +kernel
theorem dX9_carriedOut_45 : decode cX9_carriedOut 45 = .ok (.getfield 350, 3) := by decide +kernel
theorem dX9_carriedOut_48 : decode cX9_carriedOut 48 = .ok (.invokevirtual 353, 3) := by decide +kernel
theorem dX9_carriedOut_51 : decode cX9_carriedOut 51 = .ok (.istore_n 2, 1) := by decide +kernel
theorem dX9_carriedOut_52 : decode cX9_carriedOut 52 = .ok (.iload_n 2, 1) := by decide +kernel
theorem dX9_carriedOut_53 : decode cX9_carriedOut 53 = .ok (.ifCond .ge 24, 3) := by decide +kernel
theorem dX9_carriedOut_56 : decode cX9_carriedOut 56 = .ok (.iload_n 2, 1) := by decide +kernel
theorem dX9_carriedOut_57 : decode cX9_carriedOut 57 = .ok (.iconst (-1), 1) := by decide +kernel
theorem dX9_carriedOut_58 : decode cX9_carriedOut 58 = .ok (.if_icmp .eq 17, 3) := by decide +kernel
theorem dX9_carriedOut_61 : decode cX9_carriedOut 61 = .ok (.aload_n 0, 1) := by decide +kernel
theorem dX9_carriedOut_62 : decode cX9_carriedOut 62 = .ok (.getfield 10, 3) := by decide +kernel
theorem dX9_carriedOut_65 : decode cX9_carriedOut 65 = .ok (.getfield 296, 3) := by decide +kernel
theorem dX9_carriedOut_68 : decode cX9_carriedOut 68 = .ok (.bipush 20, 2) := by decide +kernel
theorem dX9_carriedOut_70 : decode cX9_carriedOut 70 = .ok (.iload_n 1, 1) := by decide +kernel
theorem dX9_carriedOut_71 : decode cX9_carriedOut 71 = .ok (.invokevirtual 357, 3) := by decide +kernel
theorem dX9_carriedOut_74 : decode cX9_carriedOut 74 = .ok (.pop, 1) := by decide +kernel
theorem dX9_carriedOut_75 : decode cX9_carriedOut 75 = .ok (.iconst (-1), 1) := by decide +kernel
theorem dX9_carriedOut_76 : decode cX9_carriedOut 76 = .ok (.ireturn, 1) := by decide +kernel
theorem dX9_carriedOut_77 : decode cX9_carriedOut 77 = .ok (.iinc 1 1, 3) := by decide +kernel
theorem dX9_carriedOut_80 : decode cX9_carriedOut 80 = .ok (.aload_n 0, 1) := by decide +kernel
theorem dX9_carriedOut_81 : decode cX9_carriedOut 81 = .ok (.getfield 32, 3) := by decide +kernel
theorem dX9_carriedOut_84 : decode cX9_carriedOut 84 = .ok (.bipush 59, 2) := by decide +kernel
theorem dX9_carriedOut_86 : decode cX9_carriedOut 86 = .ok (.invokevirtual 359, 3) := by decide +kernel
theorem dX9_carriedOut_89 : decode cX9_carriedOut 89 = .ok (.pop, 1) := by decide +kernel
theorem dX9_carriedOut_90 : decode cX9_carriedOut 90 = .ok (.goto (-80), 3) := by decide +kernel
theorem dX9_carriedOut_93 : decode cX9_carriedOut 93 = .ok (.iload_n 1, 1) := by decide +kernel
theorem dX9_carriedOut_94 : decode cX9_carriedOut 94 = .ok (.ireturn, 1) := by decide +kernel
theorem dX9_outcomeOf_0 : decode cX9_outcomeOf 0 = .ok (.getstatic 362, 3) := by decide +kernel
theorem dX9_outcomeOf_3 : decode cX9_outcomeOf 3 = .ok (.aload_n 1, 1) := by decide +kernel
theorem dX9_outcomeOf_4 : decode cX9_outcomeOf 4 = .ok (.invokevirtual 368, 3) := by decide +kernel
theorem dX9_outcomeOf_7 : decode cX9_outcomeOf 7 = .ok (.iaload, 1) := by decide +kernel
theorem dX9_outcomeOf_8 : decode cX9_outcomeOf 8 = .ok (.tableswitch 123 1 8 #[48, 58, 67, 77, 86, 95, 105, 114], 48) := by decide +kernel
theorem dX9_outcomeOf_56 : decode cX9_outcomeOf 56 = .ok (.aload_n 0, 1) := by decide +kernel
theorem dX9_outcomeOf_57 : decode cX9_outcomeOf 57 = .ok (.getfield 10, 3) := by decide +kernel
theorem dX9_outcomeOf_60 : decode cX9_outcomeOf 60 = .ok (.iload_n 2, 1) := by decide +kernel
theorem dX9_outcomeOf_61 : decode cX9_outcomeOf 61 = .ok (.iload_n 3, 1) := by decide +kernel
theorem dX9_outcomeOf_62 : decode cX9_outcomeOf 62 = .ok (.invokevirtual 110, 3) := by decide +kernel
theorem dX9_outcomeOf_65 : decode cX9_outcomeOf 65 = .ok (.ireturn, 1) := by decide +kernel
theorem dX9_outcomeOf_66 : decode cX9_outcomeOf 66 = .ok (.aload_n 0, 1) := by decide +kernel
theorem dX9_outcomeOf_67 : decode cX9_outcomeOf 67 = .ok (.getfield 10, 3) := by decide +kernel
theorem dX9_outcomeOf_70 : decode cX9_outcomeOf 70 = .ok (.iload_n 2, 1) := by decide +kernel
theorem dX9_outcomeOf_71 : decode cX9_outcomeOf 71 = .ok (.invokevirtual 113, 3) := by decide +kernel
theorem dX9_outcomeOf_74 : decode cX9_outcomeOf 74 = .ok (.ireturn, 1) := by decide +kernel
theorem dX9_outcomeOf_75 : decode cX9_outcomeOf 75 = .ok (.aload_n 0, 1) := by decide +kernel
theorem dX9_outcomeOf_76 : decode cX9_outcomeOf 76 = .ok (.getfield 10, 3) := by decide +kernel
theorem dX9_outcomeOf_79 : decode cX9_outcomeOf 79 = .ok (.iload_n 2, 1) := by decide +kernel
theorem dX9_outcomeOf_80 : decode cX9_outcomeOf 80 = .ok (.iload_n 3, 1) := by decide +kernel
theorem dX9_outcomeOf_81 : decode cX9_outcomeOf 81 = .ok (.invokevirtual 155, 3) := by decide +kernel
theorem dX9_outcomeOf_84 : decode cX9_outcomeOf 84 = .ok (.ireturn, 1) := by decide +kernel
theorem dX9_outcomeOf_85 : decode cX9_outcomeOf 85 = .ok (.aload_n 0, 1) := by decide +kernel
theorem dX9_outcomeOf_86 : decode cX9_outcomeOf 86 = .ok (.getfield 10, 3) := by decide +kernel
theorem dX9_outcomeOf_89 : decode cX9_outcomeOf 89 = .ok (.iload_n 2, 1) := by decide +kernel
theorem dX9_outcomeOf_90 : decode cX9_outcomeOf 90 = .ok (.invokevirtual 158, 3) := by decide +kernel
theorem dX9_outcomeOf_93 : decode cX9_outcomeOf 93 = .ok (.ireturn, 1) := by decide +kernel
theorem dX9_outcomeOf_94 : decode cX9_outcomeOf 94 = .ok (.aload_n 0, 1) := by decide +kernel
theorem dX9_outcomeOf_95 : decode cX9_outcomeOf 95 = .ok (.getfield 10, 3) := by decide +kernel
theorem dX9_outcomeOf_98 : decode cX9_outcomeOf 98 = .ok (.iload_n 2, 1) := by decide +kernel
theorem dX9_outcomeOf_99 : decode cX9_outcomeOf 99 = .ok (.invokevirtual 135, 3) := by decide +kernel
theorem dX9_outcomeOf_102 : decode cX9_outcomeOf 102 = .ok (.ireturn, 1) := by decide +kernel
theorem dX9_outcomeOf_103 : decode cX9_outcomeOf 103 = .ok (.aload_n 0, 1) := by decide +kernel
theorem dX9_outcomeOf_104 : decode cX9_outcomeOf 104 = .ok (.getfield 10, 3) := by decide +kernel
theorem dX9_outcomeOf_107 : decode cX9_outcomeOf 107 = .ok (.iload_n 2, 1) := by decide +kernel
theorem dX9_outcomeOf_108 : decode cX9_outcomeOf 108 = .ok (.iload_n 3, 1) := by decide +kernel
theorem dX9_outcomeOf_109 : decode cX9_outcomeOf 109 = .ok (.invokevirtual 101, 3) := by decide +kernel
theorem dX9_outcomeOf_112 : decode cX9_outcomeOf 112 = .ok (.ireturn, 1) := by decide +kernel
theorem dX9_outcomeOf_113 : decode cX9_outcomeOf 113 = .ok (.aload_n 0, 1) := by decide +kernel
theorem dX9_outcomeOf_114 : decode cX9_outcomeOf 114 = .ok (.getfield 10, 3) := by decide +kernel
theorem dX9_outcomeOf_117 : decode cX9_outcomeOf 117 = .ok (.iload_n 2, 1) := by decide +kernel
theorem dX9_outcomeOf_118 : decode cX9_outcomeOf 118 = .ok (.invokevirtual 164, 3) := by decide +kernel
theorem dX9_outcomeOf_121 : decode cX9_outcomeOf 121 = .ok (.ireturn, 1) := by decide +kernel
theorem dX9_outcomeOf_122 : decode cX9_outcomeOf 122 = .ok (.aload_n 0, 1) := by decide +kernel
theorem dX9_outcomeOf_123 : decode cX9_outcomeOf 123 = .ok (.getfield 10, 3) := by decide +kernel
theorem dX9_outcomeOf_126 : decode cX9_outcomeOf 126 = .ok (.iload_n 2, 1) := by decide +kernel
theorem dX9_outcomeOf_127 : decode cX9_outcomeOf 127 = .ok (.invokevirtual 167, 3) := by decide +kernel
theorem dX9_outcomeOf_130 : decode cX9_outcomeOf 130 = .ok (.ireturn, 1) := by decide +kernel
theorem dX9_outcomeOf_131 : decode cX9_outcomeOf 131 = .ok (.aload_n 0, 1) := by decide +kernel
theorem dX9_outcomeOf_132 : decode cX9_outcomeOf 132 = .ok (.getfield 10, 3) := by decide +kernel
theorem dX9_outcomeOf_135 : decode cX9_outcomeOf 135 = .ok (.iload_n 2, 1) := by decide +kernel
theorem dX9_outcomeOf_136 : decode cX9_outcomeOf 136 = .ok (.invokevirtual 170, 3) := by decide +kernel
theorem dX9_outcomeOf_139 : decode cX9_outcomeOf 139 = .ok (.ireturn, 1) := by decide +kernel
theorem dX10_init_0 : decode cX10_init 0 = .ok (.aload_n 0, 1) := by decide +kernel
theorem dX10_init_1 : decode cX10_init 1 = .ok (.invokespecial 3, 3) := by decide +kernel
theorem dX10_init_4 : decode cX10_init 4 = .ok (.aload_n 0, 1) := by decide +kernel
theorem dX10_init_5 : decode cX10_init 5 = .ok (.sipush 129, 3) := by decide +kernel
theorem dX10_init_8 : decode cX10_init 8 = .ok (.newarray .int, 2) := by decide +kernel
theorem dX10_init_10 : decode cX10_init 10 = .ok (.putfield 9, 3) := by decide +kernel
theorem dX10_init_13 : decode cX10_init 13 = .ok (.aload_n 0, 1) := by decide +kernel
theorem dX10_init_14 : decode cX10_init 14 = .ok (.sipush 129, 3) := by decide +kernel
theorem dX10_init_17 : decode cX10_init 17 = .ok (.newarray .int, 2) := by decide +kernel
theorem dX10_init_19 : decode cX10_init 19 = .ok (.putfield 13, 3) := by decide +kernel
theorem dX10_init_22 : decode cX10_init 22 = .ok (.aload_n 0, 1) := by decide +kernel
theorem dX10_init_23 : decode cX10_init 23 = .ok (.sipush 129, 3) := by decide +kernel
theorem dX10_init_26 : decode cX10_init 26 = .ok (.newarray .int, 2) := by decide +kernel
theorem dX10_init_28 : decode cX10_init 28 = .ok (.putfield 16, 3) := by decide +kernel
theorem dX10_init_31 : decode cX10_init 31 = .ok (.aload_n 0, 1) := by decide +kernel
theorem dX10_init_32 : decode cX10_init 32 = .ok (.sipush 129, 3) := by decide +kernel
theorem dX10_init_35 : decode cX10_init 35 = .ok (.newarray .int, 2) := by decide +kernel
theorem dX10_init_37 : decode cX10_init 37 = .ok (.putfield 19, 3) := by decide +kernel
theorem dX10_init_40 : decode cX10_init 40 = .ok (.aload_n 0, 1) := by decide +kernel
theorem dX10_init_41 : decode cX10_init 41 = .ok (.sipush 1032, 3) := by decide +kernel
theorem dX10_init_44 : decode cX10_init 44 = .ok (.newarray .int, 2) := by decide +kernel
theorem dX10_init_46 : decode cX10_init 46 = .ok (.putfield 22, 3) := by decide +kernel
theorem dX10_init_49 : decode cX10_init 49 = .ok (.aload_n 0, 1) := by decide +kernel
theorem dX10_init_50 : decode cX10_init 50 = .ok (.bipush 60, 2) := by decide +kernel
theorem dX10_init_52 : decode cX10_init 52 = .ok (.newarray .char, 2) := by decide +kernel
theorem dX10_init_54 : decode cX10_init 54 = .ok (.putfield 25, 3) := by decide +kernel
theorem dX10_init_57 : decode cX10_init 57 = .ok (.aload_n 0, 1) := by decide +kernel
theorem dX10_init_58 : decode cX10_init 58 = .ok (.bipush 9, 2) := by decide +kernel
theorem dX10_init_60 : decode cX10_init 60 = .ok (.anewarray 29, 3) := by decide +kernel
theorem dX10_init_63 : decode cX10_init 63 = .ok (.dup, 1) := by decide +kernel
theorem dX10_init_64 : decode cX10_init 64 = .ok (.iconst 0, 1) := by decide +kernel
theorem dX10_init_65 : decode cX10_init 65 = .ok (.ldc 31, 2) := by decide +kernel
theorem dX10_init_67 : decode cX10_init 67 = .ok (.aastore, 1) := by decide +kernel
theorem dX10_init_68 : decode cX10_init 68 = .ok (.dup, 1) := by decide +kernel
theorem dX10_init_69 : decode cX10_init 69 = .ok (.iconst 1, 1) := by decide +kernel
theorem dX10_init_70 : decode cX10_init 70 = .ok (.ldc 33, 2) := by decide +kernel
theorem dX10_init_72 : decode cX10_init 72 = .ok (.aastore, 1) := by decide +kernel
theorem dX10_init_73 : decode cX10_init 73 = .ok (.dup, 1) := by decide +kernel
theorem dX10_init_74 : decode cX10_init 74 = .ok (.iconst 2, 1) := by decide +kernel
theorem dX10_init_75 : decode cX10_init 75 = .ok (.ldc 35, 2) := by decide +kernel
theorem dX10_init_77 : decode cX10_init 77 = .ok (.aastore, 1) := by decide +kernel
theorem dX10_init_78 : decode cX10_init 78 = .ok (.dup, 1) := by decide +kernel
theorem dX10_init_79 : decode cX10_init 79 = .ok (.iconst 3, 1) := by decide +kernel
theorem dX10_init_80 : decode cX10_init 80 = .ok (.ldc 37, 2) := by decide +kernel
theorem dX10_init_82 : decode cX10_init 82 = .ok (.aastore, 1) := by decide +kernel
theorem dX10_init_83 : decode cX10_init 83 = .ok (.dup, 1) := by decide +kernel
theorem dX10_init_84 : decode cX10_init 84 = .ok (.iconst 4, 1) := by decide +kernel
theorem dX10_init_85 : decode cX10_init 85 = .ok (.ldc 39, 2) := by decide +kernel
theorem dX10_init_87 : decode cX10_init 87 = .ok (.aastore, 1) := by decide +kernel
theorem dX10_init_88 : decode cX10_init 88 = .ok (.dup, 1) := by decide +kernel
theorem dX10_init_89 : decode cX10_init 89 = .ok (.iconst 5, 1) := by decide +kernel
theorem dX10_init_90 : decode cX10_init 90 = .ok (.ldc 41, 2) := by decide +kernel
theorem dX10_init_92 : decode cX10_init 92 = .ok (.aastore, 1) := by decide +kernel
theorem dX10_init_93 : decode cX10_init 93 = .ok (.dup, 1) := by decide +kernel
theorem dX10_init_94 : decode cX10_init 94 = .ok (.bipush 6, 2) := by decide +kernel
theorem dX10_init_96 : decode cX10_init 96 = .ok (.ldc 43, 2) := by decide +kernel
theorem dX10_init_98 : decode cX10_init 98 = .ok (.aastore, 1) := by decide +kernel
theorem dX10_init_99 : decode cX10_init 99 = .ok (.dup, 1) := by decide +kernel
theorem dX10_init_100 : decode cX10_init 100 = .ok (.bipush 7, 2) := by decide +kernel
theorem dX10_init_102 : decode cX10_init 102 = .ok (.ldc 45, 2) := by decide +kernel
theorem dX10_init_104 : decode cX10_init 104 = .ok (.aastore, 1) := by decide +kernel
theorem dX10_init_105 : decode cX10_init 105 = .ok (.dup, 1) := by decide +kernel
theorem dX10_init_106 : decode cX10_init 106 = .ok (.bipush 8, 2) := by decide +kernel
theorem dX10_init_108 : decode cX10_init 108 = .ok (.ldc 47, 2) := by decide +kernel
theorem dX10_init_110 : decode cX10_init 110 = .ok (.aastore, 1) := by decide +kernel
theorem dX10_init_111 : decode cX10_init 111 = .ok (.putfield 49, 3) := by decide +kernel
theorem dX10_init_114 : decode cX10_init 114 = .ok (.aload_n 0, 1) := by decide +kernel
theorem dX10_init_115 : decode cX10_init 115 = .ok (.bipush 60, 2) := by decide +kernel
theorem dX10_init_117 : decode cX10_init 117 = .ok (.newarray .char, 2) := by decide +kernel
theorem dX10_init_119 : decode cX10_init 119 = .ok (.putfield 53, 3) := by decide +kernel
theorem dX10_init_122 : decode cX10_init 122 = .ok (.aload_n 0, 1) := by decide +kernel
theorem dX10_init_123 : decode cX10_init 123 = .ok (.iconst (-1), 1) := by decide +kernel
theorem dX10_init_124 : decode cX10_init 124 = .ok (.putfield 56, 3) := by decide +kernel
theorem dX10_init_127 : decode cX10_init 127 = .ok (.aload_n 0, 1) := by decide +kernel
theorem dX10_init_128 : decode cX10_init 128 = .ok (.sipush 180, 3) := by decide +kernel
theorem dX10_init_131 : decode cX10_init 131 = .ok (.newarray .int, 2) := by decide +kernel
theorem dX10_init_133 : decode cX10_init 133 = .ok (.putfield 60, 3) := by decide +kernel
theorem dX10_init_136 : decode cX10_init 136 = .ok (.aload_n 0, 1) := by decide +kernel
theorem dX10_init_137 : decode cX10_init 137 = .ok (.getfield 9, 3) := by decide +kernel
theorem dX10_init_140 : decode cX10_init 140 = .ok (.iconst 4, 1) := by decide +kernel
theorem dX10_init_141 : decode cX10_init 141 = .ok (.bipush 12, 2) := by decide +kernel
theorem dX10_init_143 : decode cX10_init 143 = .ok (.iastore, 1) := by decide +kernel
theorem dX10_init_144 : decode cX10_init 144 = .ok (.aload_n 0, 1) := by decide +kernel
theorem dX10_init_145 : decode cX10_init 145 = .ok (.getfield 9, 3) := by decide +kernel
theorem dX10_init_148 : decode cX10_init 148 = .ok (.bipush 6, 2) := by decide +kernel
theorem dX10_init_150 : decode cX10_init 150 = .ok (.bipush 10, 2) := by decide +kernel
theorem dX10_init_152 : decode cX10_init 152 = .ok (.iastore, 1) := by decide +kernel
theorem dX10_init_153 : decode cX10_init 153 = .ok (.aload_n 0, 1) := by decide +kernel
theorem dX10_init_154 : decode cX10_init 154 = .ok (.getfield 9, 3) := by decide +kernel
theorem dX10_init_157 : decode cX10_init 157 = .ok (.bipush 7, 2) := by decide +kernel
theorem dX10_init_159 : decode cX10_init 159 = .ok (.bipush 10, 2) := by decide +kernel
theorem dX10_init_161 : decode cX10_init 161 = .ok (.iastore, 1) := by decide +kernel
theorem dX10_init_162 : decode cX10_init 162 = .ok (.return_, 1) := by decide +kernel
theorem dX10_thrown_0 : decode cX10_thrown 0 = .ok (.aload_n 0, 1) := by decide +kernel
theorem dX10_thrown_1 : decode cX10_thrown 1 = .ok (.getfield 63, 3) := by decide +kernel
theorem dX10_thrown_4 : decode cX10_thrown 4 = .ok (.ireturn, 1) := by decide +kernel
theorem dX10_in_0 : decode cX10_in 0 = .ok (.iload_n 0, 1) := by decide +kernel
theorem dX10_in_1 : decode cX10_in 1 = .ok (.iload_n 1, 1) := by decide +kernel
theorem dX10_in_2 : decode cX10_in 2 = .ok (.if_icmp .lt 12, 3) := by decide +kernel
theorem dX10_in_5 : decode cX10_in 5 = .ok (.iload_n 0, 1) := by decide +kernel
theorem dX10_in_6 : decode cX10_in 6 = .ok (.iload_n 2, 1) := by decide +kernel
theorem dX10_in_7 : decode cX10_in 7 = .ok (.if_icmp .gt 7, 3) := by decide +kernel
theorem dX10_in_10 : decode cX10_in 10 = .ok (.iconst 1, 1) := by decide +kernel
theorem dX10_in_11 : decode cX10_in 11 = .ok (.goto 4, 3) := by decide +kernel
theorem dX10_in_14 : decode cX10_in 14 = .ok (.iconst 0, 1) := by decide +kernel
theorem dX10_in_15 : decode cX10_in 15 = .ok (.ireturn, 1) := by decide +kernel
theorem dX10_keep_0 : decode cX10_keep 0 = .ok (.aload_n 0, 1) := by decide +kernel
theorem dX10_keep_1 : decode cX10_keep 1 = .ok (.iconst 0, 1) := by decide +kernel
theorem dX10_keep_2 : decode cX10_keep 2 = .ok (.putfield 63, 3) := by decide +kernel
theorem dX10_keep_5 : decode cX10_keep 5 = .ok (.aload_n 0, 1) := by decide +kernel
theorem dX10_keep_6 : decode cX10_keep 6 = .ok (.getfield 9, 3) := by decide +kernel
theorem dX10_keep_9 : decode cX10_keep 9 = .ok (.iconst 0, 1) := by decide +kernel
theorem dX10_keep_10 : decode cX10_keep 10 = .ok (.aload_n 0, 1) := by decide +kernel
theorem dX10_keep_11 : decode cX10_keep 11 = .ok (.getfield 13, 3) := by decide +kernel
theorem dX10_keep_14 : decode cX10_keep 14 = .ok (.iconst 0, 1) := by decide +kernel
theorem dX10_keep_15 : decode cX10_keep 15 = .ok (.sipush 129, 3) := by decide +kernel
theorem dX10_keep_18 : decode cX10_keep 18 = .ok (.invokestatic 66, 3) := by decide +kernel
theorem dX10_keep_21 : decode cX10_keep 21 = .ok (.return_, 1) := by decide +kernel
theorem dX10_ends_0 : decode cX10_ends 0 = .ok (.aload_n 0, 1) := by decide +kernel
theorem dX10_ends_1 : decode cX10_ends 1 = .ok (.getfield 63, 3) := by decide +kernel
theorem dX10_ends_4 : decode cX10_ends 4 = .ok (.ifCond .le 21, 3) := by decide +kernel
theorem dX10_ends_7 : decode cX10_ends 7 = .ok (.aload_n 0, 1) := by decide +kernel
theorem dX10_ends_8 : decode cX10_ends 8 = .ok (.getfield 13, 3) := by decide +kernel
theorem dX10_ends_11 : decode cX10_ends 11 = .ok (.iconst 0, 1) := by decide +kernel
theorem dX10_ends_12 : decode cX10_ends 12 = .ok (.aload_n 0, 1) := by decide +kernel
theorem dX10_ends_13 : decode cX10_ends 13 = .ok (.getfield 9, 3) := by decide +kernel
theorem dX10_ends_16 : decode cX10_ends 16 = .ok (.iconst 0, 1) := by decide +kernel
theorem dX10_ends_17 : decode cX10_ends 17 = .ok (.sipush 129, 3) := by decide +kernel
theorem dX10_ends_20 : decode cX10_ends 20 = .ok (.invokestatic 66, 3) := by decide +kernel
theorem dX10_ends_23 : decode cX10_ends 23 = .ok (.iconst 0, 1) := by decide +kernel
theorem dX10_ends_24 : decode cX10_ends 24 = .ok (.ireturn, 1) := by decide +kernel
theorem dX10_ends_25 : decode cX10_ends 25 = .ok (.aload_n 0, 1) := by decide +kernel
theorem dX10_ends_26 : decode cX10_ends 26 = .ok (.getfield 72, 3) := by decide +kernel
theorem dX10_ends_29 : decode cX10_ends 29 = .ok (.bipush 8, 2) := by decide +kernel
theorem dX10_ends_31 : decode cX10_ends 31 = .ok (.if_icmp .ne 31, 3) := by decide +kernel
theorem dX10_ends_34 : decode cX10_ends 34 = .ok (.aload_n 0, 1) := by decide +kernel
theorem dX10_ends_35 : decode cX10_ends 35 = .ok (.getfield 22, 3) := by decide +kernel
theorem dX10_ends_38 : decode cX10_ends 38 = .ok (.sipush 129, 3) := by decide +kernel
theorem dX10_ends_41 : decode cX10_ends 41 = .ok (.aload_n 0, 1) := by decide +kernel
theorem dX10_ends_42 : decode cX10_ends 42 = .ok (.getfield 22, 3) := by decide +kernel
theorem dX10_ends_45 : decode cX10_ends 45 = .ok (.iconst 0, 1) := by decide +kernel
theorem dX10_ends_46 : decode cX10_ends 46 = .ok (.sipush 903, 3) := by decide +kernel
theorem dX10_ends_49 : decode cX10_ends 49 = .ok (.invokestatic 66, 3) := by decide +kernel
theorem dX10_ends_52 : decode cX10_ends 52 = .ok (.aload_n 0, 1) := by decide +kernel
theorem dX10_ends_53 : decode cX10_ends 53 = .ok (.dup, 1) := by decide +kernel
theorem dX10_ends_54 : decode cX10_ends 54 = .ok (.getfield 72, 3) := by decide +kernel
theorem dX10_ends_57 : decode cX10_ends 57 = .ok (.iconst 1, 1) := by decide +kernel
theorem dX10_ends_58 : decode cX10_ends 58 = .ok (.isub, 1) := by decide +kernel
theorem dX10_ends_59 : decode cX10_ends 59 = .ok (.putfield 72, 3) := by decide +kernel
theorem dX10_ends_62 : decode cX10_ends 62 = .ok (.aload_n 0, 1) := by decide +kernel
theorem dX10_ends_63 : decode cX10_ends 63 = .ok (.getfield 13, 3) := by decide +kernel
theorem dX10_ends_66 : decode cX10_ends 66 = .ok (.iconst 0, 1) := by decide +kernel
theorem dX10_ends_67 : decode cX10_ends 67 = .ok (.aload_n 0, 1) := by decide +kernel
theorem dX10_ends_68 : decode cX10_ends 68 = .ok (.getfield 22, 3) := by decide +kernel
theorem dX10_ends_71 : decode cX10_ends 71 = .ok (.sipush 129, 3) := by decide +kernel
theorem dX10_ends_74 : decode cX10_ends 74 = .ok (.aload_n 0, 1) := by decide +kernel
theorem dX10_ends_75 : decode cX10_ends 75 = .ok (.getfield 72, 3) := by decide +kernel
theorem dX10_ends_78 : decode cX10_ends 78 = .ok (.imul, 1) := by decide +kernel
theorem dX10_ends_79 : decode cX10_ends 79 = .ok (.sipush 129, 3) := by decide +kernel
theorem dX10_ends_82 : decode cX10_ends 82 = .ok (.invokestatic 66, 3) := by decide +kernel
theorem dX10_ends_85 : decode cX10_ends 85 = .ok (.aload_n 0, 1) := by decide +kernel
theorem dX10_ends_86 : decode cX10_ends 86 = .ok (.dup, 1) := by decide +kernel
theorem dX10_ends_87 : decode cX10_ends 87 = .ok (.getfield 72, 3) := by decide +kernel
theorem dX10_ends_90 : decode cX10_ends 90 = .ok (.iconst 1, 1) := by decide +kernel
theorem dX10_ends_91 : decode cX10_ends 91 = .ok (.iadd, 1) := by decide +kernel
theorem dX10_ends_92 : decode cX10_ends 92 = .ok (.putfield 72, 3) := by decide +kernel
theorem dX10_ends_95 : decode cX10_ends 95 = .ok (.iload_n 1, 1) := by decide +kernel
theorem dX10_ends_96 : decode cX10_ends 96 = .ok (.ireturn, 1) := by decide +kernel
theorem dX10_fails_0 : decode cX10_fails 0 = .ok (.aload_n 0, 1) := by decide +kernel
theorem dX10_fails_1 : decode cX10_fails 1 = .ok (.iload_n 1, 1) := by decide +kernel
theorem dX10_fails_2 : decode cX10_fails 2 = .ok (.putfield 63, 3) := by decide +kernel
theorem dX10_fails_5 : decode cX10_fails 5 = .ok (.iconst 0, 1) := by decide +kernel
theorem dX10_fails_6 : decode cX10_fails 6 = .ok (.ireturn, 1) := by decide +kernel
theorem dX10_refuse_0 : decode cX10_refuse 0 = .ok (.aload_n 0, 1) := by decide +kernel
theorem dX10_refuse_1 : decode cX10_refuse 1 = .ok (.iload_n 1, 1) := by decide +kernel
theorem dX10_refuse_2 : decode cX10_refuse 2 = .ok (.putfield 63, 3) := by decide +kernel
theorem dX10_refuse_5 : decode cX10_refuse 5 = .ok (.aload_n 0, 1) := by decide +kernel
theorem dX10_refuse_6 : decode cX10_refuse 6 = .ok (.iload_n 2, 1) := by decide +kernel
theorem dX10_refuse_7 : decode cX10_refuse 7 = .ok (.putfield 75, 3) := by decide +kernel
theorem dX10_refuse_10 : decode cX10_refuse 10 = .ok (.aload_n 0, 1) := by decide +kernel
theorem dX10_refuse_11 : decode cX10_refuse 11 = .ok (.iload_n 3, 1) := by decide +kernel
theorem dX10_refuse_12 : decode cX10_refuse 12 = .ok (.putfield 78, 3) := by decide +kernel
theorem dX10_refuse_15 : decode cX10_refuse 15 = .ok (.aload_n 0, 1) := by decide +kernel
theorem dX10_refuse_16 : decode cX10_refuse 16 = .ok (.iconst 1, 1) := by decide +kernel
theorem dX10_refuse_17 : decode cX10_refuse 17 = .ok (.putfield 81, 3) := by decide +kernel
theorem dX10_refuse_20 : decode cX10_refuse 20 = .ok (.iconst 0, 1) := by decide +kernel
theorem dX10_refuse_21 : decode cX10_refuse 21 = .ok (.ireturn, 1) := by decide +kernel
theorem dX10_refusal_0 : decode cX10_refusal 0 = .ok (.aload_n 0, 1) := by decide +kernel
theorem dX10_refusal_1 : decode cX10_refusal 1 = .ok (.aload_n 0, 1) := by decide +kernel
theorem dX10_refusal_2 : decode cX10_refusal 2 = .ok (.getfield 75, 3) := by decide +kernel
theorem dX10_refusal_5 : decode cX10_refusal 5 = .ok (.ifCond .ne 7, 3) := by decide +kernel
theorem dX10_refusal_8 : decode cX10_refusal 8 = .ok (.iconst 1, 1) := by decide +kernel
theorem dX10_refusal_9 : decode cX10_refusal 9 = .ok (.goto 4, 3) := by decide +kernel
theorem dX10_refusal_12 : decode cX10_refusal 12 = .ok (.iconst 0, 1) := by decide +kernel
theorem dX10_refusal_13 : decode cX10_refusal 13 = .ok (.putfield 63, 3) := by decide +kernel
theorem dX10_refusal_16 : decode cX10_refusal 16 = .ok (.aload_n 0, 1) := by decide +kernel
theorem dX10_refusal_17 : decode cX10_refusal 17 = .ok (.getfield 63, 3) := by decide +kernel
theorem dX10_refusal_20 : decode cX10_refusal 20 = .ok (.ifCond .le 7, 3) := by decide +kernel
theorem dX10_refusal_23 : decode cX10_refusal 23 = .ok (.iconst 0, 1) := by decide +kernel
theorem dX10_refusal_24 : decode cX10_refusal 24 = .ok (.goto 18, 3) := by decide +kernel
theorem dX10_refusal_27 : decode cX10_refusal 27 = .ok (.iload_n 1, 1) := by decide +kernel
theorem dX10_refusal_28 : decode cX10_refusal 28 = .ok (.ifCond .eq 10, 3) := by decide +kernel
theorem dX10_refusal_31 : decode cX10_refusal 31 = .ok (.aload_n 0, 1) := by decide +kernel
theorem dX10_refusal_32 : decode cX10_refusal 32 = .ok (.getfield 75, 3) := by decide +kernel
theorem dX10_refusal_35 : decode cX10_refusal 35 = .ok (.goto 7, 3) := by decide +kernel
theorem dX10_refusal_38 : decode cX10_refusal 38 = .ok (.aload_n 0, 1) := by decide +kernel
theorem dX10_refusal_39 : decode cX10_refusal 39 = .ok (.getfield 78, 3) := by decide +kernel
theorem dX10_refusal_42 : decode cX10_refusal 42 = .ok (.ireturn, 1) := by decide +kernel
theorem dX10_tub1_0 : decode cX10_tub1 0 = .ok (.aload_n 0, 1) := by decide +kernel
theorem dX10_tub1_1 : decode cX10_tub1 1 = .ok (.getfield 9, 3) := by decide +kernel
theorem dX10_tub1_4 : decode cX10_tub1 4 = .ok (.bipush 10, 2) := by decide +kernel
theorem dX10_tub1_6 : decode cX10_tub1 6 = .ok (.bipush 7, 2) := by decide +kernel
theorem dX10_tub1_8 : decode cX10_tub1 8 = .ok (.iload_n 1, 1) := by decide +kernel
theorem dX10_tub1_9 : decode cX10_tub1 9 = .ok (.imul, 1) := by decide +kernel
theorem dX10_tub1_10 : decode cX10_tub1 10 = .ok (.iadd, 1) := by decide +kernel
theorem dX10_tub1_11 : decode cX10_tub1 11 = .ok (.iload_n 2, 1) := by decide +kernel
theorem dX10_tub1_12 : decode cX10_tub1 12 = .ok (.iadd, 1) := by decide +kernel
theorem dX10_tub1_13 : decode cX10_tub1 13 = .ok (.iaload, 1) := by decide +kernel
theorem dX10_tub1_14 : decode cX10_tub1 14 = .ok (.ireturn, 1) := by decide +kernel
theorem dX10_setTub_0 : decode cX10_setTub 0 = .ok (.aload_n 0, 1) := by decide +kernel
theorem dX10_setTub_1 : decode cX10_setTub 1 = .ok (.getfield 9, 3) := by decide +kernel
theorem dX10_setTub_4 : decode cX10_setTub 4 = .ok (.bipush 10, 2) := by decide +kernel
theorem dX10_setTub_6 : decode cX10_setTub 6 = .ok (.bipush 7, 2) := by decide +kernel
theorem dX10_setTub_8 : decode cX10_setTub 8 = .ok (.iload_n 1, 1) := by decide +kernel
theorem dX10_setTub_9 : decode cX10_setTub 9 = .ok (.imul, 1) := by decide +kernel
theorem dX10_setTub_10 : decode cX10_setTub 10 = .ok (.iadd, 1) := by decide +kernel
theorem dX10_setTub_11 : decode cX10_setTub 11 = .ok (.iload_n 2, 1) := by decide +kernel
theorem dX10_setTub_12 : decode cX10_setTub 12 = .ok (.iadd, 1) := by decide +kernel
theorem dX10_setTub_13 : decode cX10_setTub 13 = .ok (.iload_n 3, 1) := by decide +kernel
theorem dX10_setTub_14 : decode cX10_setTub 14 = .ok (.iastore, 1) := by decide +kernel
theorem dX10_setTub_15 : decode cX10_setTub 15 = .ok (.return_, 1) := by decide +kernel
theorem dX10_tent1_0 : decode cX10_tent1 0 = .ok (.aload_n 0, 1) := by decide +kernel
theorem dX10_tent1_1 : decode cX10_tent1 1 = .ok (.getfield 9, 3) := by decide +kernel
theorem dX10_tent1_4 : decode cX10_tent1 4 = .ok (.bipush 66, 2) := by decide +kernel
theorem dX10_tent1_6 : decode cX10_tent1 6 = .ok (.bipush 11, 2) := by decide +kernel
theorem dX10_tent1_8 : decode cX10_tent1 8 = .ok (.iload_n 1, 1) := by decide +kernel
theorem dX10_tent1_9 : decode cX10_tent1 9 = .ok (.imul, 1) := by decide +kernel
theorem dX10_tent1_10 : decode cX10_tent1 10 = .ok (.iadd, 1) := by decide +kernel
theorem dX10_tent1_11 : decode cX10_tent1 11 = .ok (.iload_n 2, 1) := by decide +kernel
theorem dX10_tent1_12 : decode cX10_tent1 12 = .ok (.iadd, 1) := by decide +kernel
theorem dX10_tent1_13 : decode cX10_tent1 13 = .ok (.iaload, 1) := by decide +kernel
theorem dX10_tent1_14 : decode cX10_tent1 14 = .ok (.ireturn, 1) := by decide +kernel
theorem dX10_setTent_0 : decode cX10_setTent 0 = .ok (.aload_n 0, 1) := by decide +kernel
theorem dX10_setTent_1 : decode cX10_setTent 1 = .ok (.getfield 9, 3) := by decide +kernel
theorem dX10_setTent_4 : decode cX10_setTent 4 = .ok (.bipush 66, 2) := by decide +kernel
theorem dX10_setTent_6 : decode cX10_setTent 6 = .ok (.bipush 11, 2) := by decide +kernel
theorem dX10_setTent_8 : decode cX10_setTent 8 = .ok (.iload_n 1, 1) := by decide +kernel
theorem dX10_setTent_9 : decode cX10_setTent 9 = .ok (.imul, 1) := by decide +kernel
theorem dX10_setTent_10 : decode cX10_setTent 10 = .ok (.iadd, 1) := by decide +kernel
theorem dX10_setTent_11 : decode cX10_setTent 11 = .ok (.iload_n 2, 1) := by decide +kernel
theorem dX10_setTent_12 : decode cX10_setTent 12 = .ok (.iadd, 1) := by decide +kernel
theorem dX10_setTent_13 : decode cX10_setTent 13 = .ok (.iload_n 3, 1) := by decide +kernel
theorem dX10_setTent_14 : decode cX10_setTent 14 = .ok (.iastore, 1) := by decide +kernel
theorem dX10_setTent_15 : decode cX10_setTent 15 = .ok (.return_, 1) := by decide +kernel
theorem dX10_isTub_0 : decode cX10_isTub 0 = .ok (.iload_n 1, 1) := by decide +kernel
theorem dX10_isTub_1 : decode cX10_isTub 1 = .ok (.iconst 0, 1) := by decide +kernel
theorem dX10_isTub_2 : decode cX10_isTub 2 = .ok (.aload_n 0, 1) := by decide +kernel
theorem dX10_isTub_3 : decode cX10_isTub 3 = .ok (.getfield 9, 3) := by decide +kernel
theorem dX10_isTub_6 : decode cX10_isTub 6 = .ok (.iconst 1, 1) := by decide +kernel
theorem dX10_isTub_7 : decode cX10_isTub 7 = .ok (.iaload, 1) := by decide +kernel
theorem dX10_isTub_8 : decode cX10_isTub 8 = .ok (.iconst 1, 1) := by decide +kernel
theorem dX10_isTub_9 : decode cX10_isTub 9 = .ok (.isub, 1) := by decide +kernel
theorem dX10_isTub_10 : decode cX10_isTub 10 = .ok (.invokestatic 85, 3) := by decide +kernel
theorem dX10_isTub_13 : decode cX10_isTub 13 = .ok (.ireturn, 1) := by decide +kernel
theorem dX10_isTent_0 : decode cX10_isTent 0 = .ok (.iload_n 1, 1) := by decide +kernel
theorem dX10_isTent_1 : decode cX10_isTent 1 = .ok (.iconst 0, 1) := by decide +kernel
theorem dX10_isTent_2 : decode cX10_isTent 2 = .ok (.aload_n 0, 1) := by decide +kernel
theorem dX10_isTent_3 : decode cX10_isTent 3 = .ok (.getfield 9, 3) := by decide +kernel
theorem dX10_isTent_6 : decode cX10_isTent 6 = .ok (.iconst 2, 1) := by decide +kernel
theorem dX10_isTent_7 : decode cX10_isTent 7 = .ok (.iaload, 1) := by decide +kernel
theorem dX10_isTent_8 : decode cX10_isTent 8 = .ok (.iconst 1, 1) := by decide +kernel
theorem dX10_isTent_9 : decode cX10_isTent 9 = .ok (.isub, 1) := by decide +kernel
theorem dX10_isTent_10 : decode cX10_isTent 10 = .ok (.invokestatic 85, 3) := by decide +kernel
theorem dX10_isTent_13 : decode cX10_isTent 13 = .ok (.ireturn, 1) := by decide +kernel
theorem dX10_isHeater_0 : decode cX10_isHeater 0 = .ok (.iload_n 1, 1) := by decide +kernel
theorem dX10_isHeater_1 : decode cX10_isHeater 1 = .ok (.iconst 0, 1) := by decide +kernel
theorem dX10_isHeater_2 : decode cX10_isHeater 2 = .ok (.aload_n 0, 1) := by decide +kernel
theorem dX10_isHeater_3 : decode cX10_isHeater 3 = .ok (.getfield 9, 3) := by decide +kernel
theorem dX10_isHeater_6 : decode cX10_isHeater 6 = .ok (.iconst 3, 1) := by decide +kernel
theorem dX10_isHeater_7 : decode cX10_isHeater 7 = .ok (.iaload, 1) := by decide +kernel
theorem dX10_isHeater_8 : decode cX10_isHeater 8 = .ok (.iconst 1, 1) := by decide +kernel
theorem dX10_isHeater_9 : decode cX10_isHeater 9 = .ok (.isub, 1) := by decide +kernel
theorem dX10_isHeater_10 : decode cX10_isHeater 10 = .ok (.invokestatic 85, 3) := by decide +kernel
theorem dX10_isHeater_13 : decode cX10_isHeater 13 = .ok (.ireturn, 1) := by decide +kernel
theorem dX10_isSeam_0 : decode cX10_isSeam 0 = .ok (.aload_n 0, 1) := by decide +kernel
theorem dX10_isSeam_1 : decode cX10_isSeam 1 = .ok (.iload_n 1, 1) := by decide +kernel
theorem dX10_isSeam_2 : decode cX10_isSeam 2 = .ok (.invokevirtual 89, 3) := by decide +kernel
theorem dX10_isSeam_5 : decode cX10_isSeam 5 = .ok (.ifCond .eq 17, 3) := by decide +kernel
theorem dX10_isSeam_8 : decode cX10_isSeam 8 = .ok (.iload_n 2, 1) := by decide +kernel
theorem dX10_isSeam_9 : decode cX10_isSeam 9 = .ok (.iconst 0, 1) := by decide +kernel
theorem dX10_isSeam_10 : decode cX10_isSeam 10 = .ok (.bipush 7, 2) := by decide +kernel
theorem dX10_isSeam_12 : decode cX10_isSeam 12 = .ok (.invokestatic 85, 3) := by decide +kernel
theorem dX10_isSeam_15 : decode cX10_isSeam 15 = .ok (.ifCond .eq 7, 3) := by decide +kernel
theorem dX10_isSeam_18 : decode cX10_isSeam 18 = .ok (.iconst 1, 1) := by decide +kernel
theorem dX10_isSeam_19 : decode cX10_isSeam 19 = .ok (.goto 4, 3) := by decide +kernel
theorem dX10_isSeam_22 : decode cX10_isSeam 22 = .ok (.iconst 0, 1) := by decide +kernel
theorem dX10_isSeam_23 : decode cX10_isSeam 23 = .ok (.ireturn, 1) := by decide +kernel
theorem dX10_isTorn_0 : decode cX10_isTorn 0 = .ok (.aload_n 0, 1) := by decide +kernel
theorem dX10_isTorn_1 : decode cX10_isTorn 1 = .ok (.iload_n 1, 1) := by decide +kernel
theorem dX10_isTorn_2 : decode cX10_isTorn 2 = .ok (.iconst 2, 1) := by decide +kernel
theorem dX10_isTorn_3 : decode cX10_isTorn 3 = .ok (.invokevirtual 93, 3) := by decide +kernel
theorem dX10_isTorn_6 : decode cX10_isTorn 6 = .ok (.iload_n 2, 1) := by decide +kernel
theorem dX10_isTorn_7 : decode cX10_isTorn 7 = .ok (.ishr, 1) := by decide +kernel
theorem dX10_isTorn_8 : decode cX10_isTorn 8 = .ok (.iconst 1, 1) := by decide +kernel
theorem dX10_isTorn_9 : decode cX10_isTorn 9 = .ok (.iand, 1) := by decide +kernel
theorem dX10_isTorn_10 : decode cX10_isTorn 10 = .ok (.iconst 1, 1) := by decide +kernel
theorem dX10_isTorn_11 : decode cX10_isTorn 11 = .ok (.if_icmp .ne 7, 3) := by decide +kernel
theorem dX10_isTorn_14 : decode cX10_isTorn 14 = .ok (.iconst 1, 1) := by decide +kernel
theorem dX10_isTorn_15 : decode cX10_isTorn 15 = .ok (.goto 4, 3) := by decide +kernel
theorem dX10_isTorn_18 : decode cX10_isTorn 18 = .ok (.iconst 0, 1) := by decide +kernel
theorem dX10_isTorn_19 : decode cX10_isTorn 19 = .ok (.ireturn, 1) := by decide +kernel
theorem dX10_tornMany_0 : decode cX10_tornMany 0 = .ok (.iconst 0, 1) := by decide +kernel
theorem dX10_tornMany_1 : decode cX10_tornMany 1 = .ok (.istore_n 2, 1) := by decide +kernel
theorem dX10_tornMany_2 : decode cX10_tornMany 2 = .ok (.iconst 0, 1) := by decide +kernel
theorem dX10_tornMany_3 : decode cX10_tornMany 3 = .ok (.istore_n 3, 1) := by decide +kernel
theorem dX10_tornMany_4 : decode cX10_tornMany 4 = .ok (.iload_n 3, 1) := by decide +kernel
theorem dX10_tornMany_5 : decode cX10_tornMany 5 = .ok (.bipush 8, 2) := by decide +kernel
theorem dX10_tornMany_7 : decode cX10_tornMany 7 = .ok (.if_icmp .ge 26, 3) := by decide +kernel
theorem dX10_tornMany_10 : decode cX10_tornMany 10 = .ok (.iload_n 2, 1) := by decide +kernel
theorem dX10_tornMany_11 : decode cX10_tornMany 11 = .ok (.aload_n 0, 1) := by decide +kernel
theorem dX10_tornMany_12 : decode cX10_tornMany 12 = .ok (.iload_n 1, 1) := by decide +kernel
theorem dX10_tornMany_13 : decode cX10_tornMany 13 = .ok (.iload_n 3, 1) := by decide +kernel
theorem dX10_tornMany_14 : decode cX10_tornMany 14 = .ok (.invokevirtual 97, 3) := by decide +kernel
theorem dX10_tornMany_17 : decode cX10_tornMany 17 = .ok (.ifCond .eq 7, 3) := by decide +kernel
theorem dX10_tornMany_20 : decode cX10_tornMany 20 = .ok (.iconst 1, 1) := by decide +kernel
theorem dX10_tornMany_21 : decode cX10_tornMany 21 = .ok (.goto 4, 3) := by decide +kernel
theorem dX10_tornMany_24 : decode cX10_tornMany 24 = .ok (.iconst 0, 1) := by decide +kernel
theorem dX10_tornMany_25 : decode cX10_tornMany 25 = .ok (.iadd, 1) := by decide +kernel
theorem dX10_tornMany_26 : decode cX10_tornMany 26 = .ok (.istore_n 2, 1) := by decide +kernel
theorem dX10_tornMany_27 : decode cX10_tornMany 27 = .ok (.iinc 3 1, 3) := by decide +kernel
theorem dX10_tornMany_30 : decode cX10_tornMany 30 = .ok (.goto (-26), 3) := by decide +kernel
theorem dX10_tornMany_33 : decode cX10_tornMany 33 = .ok (.iload_n 2, 1) := by decide +kernel
theorem dX10_tornMany_34 : decode cX10_tornMany 34 = .ok (.ireturn, 1) := by decide +kernel
theorem dX10_firstTorn_0 : decode cX10_firstTorn 0 = .ok (.iload_n 2, 1) := by decide +kernel
theorem dX10_firstTorn_1 : decode cX10_firstTorn 1 = .ok (.istore_n 3, 1) := by decide +kernel
theorem dX10_firstTorn_2 : decode cX10_firstTorn 2 = .ok (.iload_n 3, 1) := by decide +kernel
theorem dX10_firstTorn_3 : decode cX10_firstTorn 3 = .ok (.bipush 8, 2) := by decide +kernel
theorem dX10_firstTorn_5 : decode cX10_firstTorn 5 = .ok (.if_icmp .ge 20, 3) := by decide +kernel
theorem dX10_firstTorn_8 : decode cX10_firstTorn 8 = .ok (.aload_n 0, 1) := by decide +kernel
theorem dX10_firstTorn_9 : decode cX10_firstTorn 9 = .ok (.iload_n 1, 1) := by decide +kernel
theorem dX10_firstTorn_10 : decode cX10_firstTorn 10 = .ok (.iload_n 3, 1) := by decide +kernel
theorem dX10_firstTorn_11 : decode cX10_firstTorn 11 = .ok (.invokevirtual 97, 3) := by decide +kernel
theorem dX10_firstTorn_14 : decode cX10_firstTorn 14 = .ok (.ifCond .eq 5, 3) := by decide +kernel
theorem dX10_firstTorn_17 : decode cX10_firstTorn 17 = .ok (.iload_n 3, 1) := by decide +kernel
theorem dX10_firstTorn_18 : decode cX10_firstTorn 18 = .ok (.ireturn, 1) := by decide +kernel
theorem dX10_firstTorn_19 : decode cX10_firstTorn 19 = .ok (.iinc 3 1, 3) := by decide +kernel
theorem dX10_firstTorn_22 : decode cX10_firstTorn 22 = .ok (.goto (-20), 3) := by decide +kernel
theorem dX10_firstTorn_25 : decode cX10_firstTorn 25 = .ok (.iconst (-1), 1) := by decide +kernel
theorem dX10_firstTorn_26 : decode cX10_firstTorn 26 = .ok (.ireturn, 1) := by decide +kernel
theorem dX10_tub_0 : decode cX10_tub 0 = .ok (.aload_n 0, 1) := by decide +kernel
theorem dX10_tub_1 : decode cX10_tub 1 = .ok (.getfield 9, 3) := by decide +kernel
theorem dX10_tub_4 : decode cX10_tub 4 = .ok (.iconst 1, 1) := by decide +kernel
theorem dX10_tub_5 : decode cX10_tub 5 = .ok (.iaload, 1) := by decide +kernel
theorem dX10_tub_6 : decode cX10_tub 6 = .ok (.istore_n 2, 1) := by decide +kernel
theorem dX10_tub_7 : decode cX10_tub 7 = .ok (.aload_n 0, 1) := by decide +kernel
theorem dX10_tub_8 : decode cX10_tub 8 = .ok (.invokevirtual 101, 3) := by decide +kernel
theorem dX10_tub_11 : decode cX10_tub 11 = .ok (.iload_n 1, 1) := by decide +kernel
theorem dX10_tub_12 : decode cX10_tub 12 = .ok (.iconst 1, 1) := by decide +kernel
theorem dX10_tub_13 : decode cX10_tub 13 = .ok (.iconst 3, 1) := by decide +kernel
theorem dX10_tub_14 : decode cX10_tub 14 = .ok (.invokestatic 85, 3) := by decide +kernel
theorem dX10_tub_17 : decode cX10_tub 17 = .ok (.ifCond .ne 9, 3) := by decide +kernel
theorem dX10_tub_20 : decode cX10_tub 20 = .ok (.aload_n 0, 1) := by decide +kernel
theorem dX10_tub_21 : decode cX10_tub 21 = .ok (.iconst 1, 1) := by decide +kernel
theorem dX10_tub_22 : decode cX10_tub 22 = .ok (.invokevirtual 104, 3) := by decide +kernel
theorem dX10_tub_25 : decode cX10_tub 25 = .ok (.ireturn, 1) := by decide +kernel
theorem dX10_tub_26 : decode cX10_tub 26 = .ok (.iload_n 2, 1) := by decide +kernel
theorem dX10_tub_27 : decode cX10_tub 27 = .ok (.bipush 8, 2) := by decide +kernel
theorem dX10_tub_29 : decode cX10_tub 29 = .ok (.if_icmp .ne 12, 3) := by decide +kernel
theorem dX10_tub_32 : decode cX10_tub 32 = .ok (.aload_n 0, 1) := by decide +kernel
theorem dX10_tub_33 : decode cX10_tub 33 = .ok (.iconst 2, 1) := by decide +kernel
theorem dX10_tub_34 : decode cX10_tub 34 = .ok (.iconst 1, 1) := by decide +kernel
theorem dX10_tub_35 : decode cX10_tub 35 = .ok (.bipush 8, 2) := by decide +kernel
theorem dX10_tub_37 : decode cX10_tub 37 = .ok (.invokevirtual 108, 3) := by decide +kernel
theorem dX10_tub_40 : decode cX10_tub 40 = .ok (.ireturn, 1) := by decide +kernel
theorem dX10_tub_41 : decode cX10_tub 41 = .ok (.iconst 0, 1) := by decide +kernel
theorem dX10_tub_42 : decode cX10_tub 42 = .ok (.istore_n 3, 1) := by decide +kernel
theorem dX10_tub_43 : decode cX10_tub 43 = .ok (.iload_n 3, 1) := by decide +kernel
theorem dX10_tub_44 : decode cX10_tub 44 = .ok (.bipush 7, 2) := by decide +kernel
theorem dX10_tub_46 : decode cX10_tub 46 = .ok (.if_icmp .ge 33, 3) := by decide +kernel
theorem dX10_tub_49 : decode cX10_tub 49 = .ok (.aload_n 0, 1) := by decide +kernel
theorem dX10_tub_50 : decode cX10_tub 50 = .ok (.iload_n 2, 1) := by decide +kernel
theorem dX10_tub_51 : decode cX10_tub 51 = .ok (.iload_n 3, 1) := by decide +kernel
theorem dX10_tub_52 : decode cX10_tub 52 = .ok (.iload_n 3, 1) := by decide +kernel
theorem dX10_tub_53 : decode cX10_tub 53 = .ok (.ifCond .ne 7, 3) := by decide +kernel
theorem dX10_tub_56 : decode cX10_tub 56 = .ok (.iload_n 1, 1) := by decide +kernel
theorem dX10_tub_57 : decode cX10_tub 57 = .ok (.goto 13, 3) := by decide +kernel
theorem dX10_tub_60 : decode cX10_tub 60 = .ok (.iload_n 3, 1) := by decide +kernel
theorem dX10_tub_61 : decode cX10_tub 61 = .ok (.iconst 1, 1) := by decide +kernel
theorem dX10_tub_62 : decode cX10_tub 62 = .ok (.if_icmp .ne 7, 3) := by decide +kernel
theorem dX10_tub_65 : decode cX10_tub 65 = .ok (.iconst (-1), 1) := by decide +kernel
theorem dX10_tub_66 : decode cX10_tub 66 = .ok (.goto 4, 3) := by decide +kernel
theorem dX10_tub_69 : decode cX10_tub 69 = .ok (.iconst 0, 1) := by decide +kernel
theorem dX10_tub_70 : decode cX10_tub 70 = .ok (.invokevirtual 112, 3) := by decide +kernel
theorem dX10_tub_73 : decode cX10_tub 73 = .ok (.iinc 3 1, 3) := by decide +kernel
theorem dX10_tub_76 : decode cX10_tub 76 = .ok (.goto (-33), 3) := by decide +kernel
theorem dX10_tub_79 : decode cX10_tub 79 = .ok (.aload_n 0, 1) := by decide +kernel
theorem dX10_tub_80 : decode cX10_tub 80 = .ok (.getfield 9, 3) := by decide +kernel
theorem dX10_tub_83 : decode cX10_tub 83 = .ok (.iconst 1, 1) := by decide +kernel
theorem dX10_tub_84 : decode cX10_tub 84 = .ok (.dup2, 1) := by decide +kernel
theorem dX10_tub_85 : decode cX10_tub 85 = .ok (.iaload, 1) := by decide +kernel
theorem dX10_tub_86 : decode cX10_tub 86 = .ok (.iconst 1, 1) := by decide +kernel
theorem dX10_tub_87 : decode cX10_tub 87 = .ok (.iadd, 1) := by decide +kernel
theorem dX10_tub_88 : decode cX10_tub 88 = .ok (.iastore, 1) := by decide +kernel
theorem dX10_tub_89 : decode cX10_tub 89 = .ok (.aload_n 0, 1) := by decide +kernel
theorem dX10_tub_90 : decode cX10_tub 90 = .ok (.iload_n 2, 1) := by decide +kernel
theorem dX10_tub_91 : decode cX10_tub 91 = .ok (.invokevirtual 116, 3) := by decide +kernel
theorem dX10_tub_94 : decode cX10_tub 94 = .ok (.ireturn, 1) := by decide +kernel
theorem dX10_tubOf_0 : decode cX10_tubOf 0 = .ok (.aload_n 0, 1) := by decide +kernel
theorem dX10_tubOf_1 : decode cX10_tubOf 1 = .ok (.aload_n 0, 1) := by decide +kernel
theorem dX10_tubOf_2 : decode cX10_tubOf 2 = .ok (.iload_n 1, 1) := by decide +kernel
theorem dX10_tubOf_3 : decode cX10_tubOf 3 = .ok (.invokevirtual 89, 3) := by decide +kernel
theorem dX10_tubOf_6 : decode cX10_tubOf 6 = .ok (.ifCond .ne 7, 3) := by decide +kernel
theorem dX10_tubOf_9 : decode cX10_tubOf 9 = .ok (.iconst 1, 1) := by decide +kernel
theorem dX10_tubOf_10 : decode cX10_tubOf 10 = .ok (.goto 18, 3) := by decide +kernel
theorem dX10_tubOf_13 : decode cX10_tubOf 13 = .ok (.iload_n 2, 1) := by decide +kernel
theorem dX10_tubOf_14 : decode cX10_tubOf 14 = .ok (.iconst 0, 1) := by decide +kernel
theorem dX10_tubOf_15 : decode cX10_tubOf 15 = .ok (.bipush 6, 2) := by decide +kernel
theorem dX10_tubOf_17 : decode cX10_tubOf 17 = .ok (.invokestatic 85, 3) := by decide +kernel
theorem dX10_tubOf_20 : decode cX10_tubOf 20 = .ok (.ifCond .ne 7, 3) := by decide +kernel
theorem dX10_tubOf_23 : decode cX10_tubOf 23 = .ok (.iconst 2, 1) := by decide +kernel
theorem dX10_tubOf_24 : decode cX10_tubOf 24 = .ok (.goto 4, 3) := by decide +kernel
theorem dX10_tubOf_27 : decode cX10_tubOf 27 = .ok (.iconst 0, 1) := by decide +kernel
theorem dX10_tubOf_28 : decode cX10_tubOf 28 = .ok (.putfield 63, 3) := by decide +kernel
theorem dX10_tubOf_31 : decode cX10_tubOf 31 = .ok (.aload_n 0, 1) := by decide +kernel
theorem dX10_tubOf_32 : decode cX10_tubOf 32 = .ok (.getfield 63, 3) := by decide +kernel
theorem dX10_tubOf_35 : decode cX10_tubOf 35 = .ok (.ifCond .le 5, 3) := by decide +kernel
theorem dX10_tubOf_38 : decode cX10_tubOf 38 = .ok (.iconst 0, 1) := by decide +kernel
theorem dX10_tubOf_39 : decode cX10_tubOf 39 = .ok (.ireturn, 1) := by decide +kernel
theorem dX10_tubOf_40 : decode cX10_tubOf 40 = .ok (.iload_n 2, 1) := by decide +kernel
theorem dX10_tubOf_41 : decode cX10_tubOf 41 = .ok (.iconst 4, 1) := by decide +kernel
theorem dX10_tubOf_42 : decode cX10_tubOf 42 = .ok (.if_icmp .ne 16, 3) := by decide +kernel
theorem dX10_tubOf_45 : decode cX10_tubOf 45 = .ok (.aload_n 0, 1) := by decide +kernel
theorem dX10_tubOf_46 : decode cX10_tubOf 46 = .ok (.iload_n 1, 1) := by decide +kernel
theorem dX10_tubOf_47 : decode cX10_tubOf 47 = .ok (.iconst 3, 1) := by decide +kernel
theorem dX10_tubOf_48 : decode cX10_tubOf 48 = .ok (.invokevirtual 93, 3) := by decide +kernel
theorem dX10_tubOf_51 : decode cX10_tubOf 51 = .ok (.ifCond .ne 7, 3) := by decide +kernel
theorem dX10_tubOf_54 : decode cX10_tubOf 54 = .ok (.iconst 0, 1) := by decide +kernel
theorem dX10_tubOf_55 : decode cX10_tubOf 55 = .ok (.goto 9, 3) := by decide +kernel
theorem dX10_tubOf_58 : decode cX10_tubOf 58 = .ok (.aload_n 0, 1) := by decide +kernel
theorem dX10_tubOf_59 : decode cX10_tubOf 59 = .ok (.iload_n 1, 1) := by decide +kernel
theorem dX10_tubOf_60 : decode cX10_tubOf 60 = .ok (.iload_n 2, 1) := by decide +kernel
theorem dX10_tubOf_61 : decode cX10_tubOf 61 = .ok (.invokevirtual 93, 3) := by decide +kernel
theorem dX10_tubOf_64 : decode cX10_tubOf 64 = .ok (.ireturn, 1) := by decide +kernel
theorem dX10_torn_0 : decode cX10_torn 0 = .ok (.aload_n 0, 1) := by decide +kernel
theorem dX10_torn_1 : decode cX10_torn 1 = .ok (.aload_n 0, 1) := by decide +kernel
theorem dX10_torn_2 : decode cX10_torn 2 = .ok (.iload_n 1, 1) := by decide +kernel
theorem dX10_torn_3 : decode cX10_torn 3 = .ok (.iload_n 2, 1) := by decide +kernel
theorem dX10_torn_4 : decode cX10_torn 4 = .ok (.invokevirtual 119, 3) := by decide +kernel
theorem dX10_torn_7 : decode cX10_torn 7 = .ok (.ifCond .ne 7, 3) := by decide +kernel
theorem dX10_torn_10 : decode cX10_torn 10 = .ok (.iconst 1, 1) := by decide +kernel
theorem dX10_torn_11 : decode cX10_torn 11 = .ok (.goto 17, 3) := by decide +kernel
theorem dX10_torn_14 : decode cX10_torn 14 = .ok (.aload_n 0, 1) := by decide +kernel
theorem dX10_torn_15 : decode cX10_torn 15 = .ok (.iload_n 1, 1) := by decide +kernel
theorem dX10_torn_16 : decode cX10_torn 16 = .ok (.iload_n 2, 1) := by decide +kernel
theorem dX10_torn_17 : decode cX10_torn 17 = .ok (.invokevirtual 122, 3) := by decide +kernel
theorem dX10_torn_20 : decode cX10_torn 20 = .ok (.ifCond .ge 7, 3) := by decide +kernel
theorem dX10_torn_23 : decode cX10_torn 23 = .ok (.iconst 2, 1) := by decide +kernel
theorem dX10_torn_24 : decode cX10_torn 24 = .ok (.goto 4, 3) := by decide +kernel
theorem dX10_torn_27 : decode cX10_torn 27 = .ok (.iconst 0, 1) := by decide +kernel
theorem dX10_torn_28 : decode cX10_torn 28 = .ok (.putfield 63, 3) := by decide +kernel
theorem dX10_torn_31 : decode cX10_torn 31 = .ok (.aload_n 0, 1) := by decide +kernel
theorem dX10_torn_32 : decode cX10_torn 32 = .ok (.getfield 63, 3) := by decide +kernel
theorem dX10_torn_35 : decode cX10_torn 35 = .ok (.ifCond .le 7, 3) := by decide +kernel
theorem dX10_torn_38 : decode cX10_torn 38 = .ok (.iconst 0, 1) := by decide +kernel
theorem dX10_torn_39 : decode cX10_torn 39 = .ok (.goto 9, 3) := by decide +kernel
theorem dX10_torn_42 : decode cX10_torn 42 = .ok (.aload_n 0, 1) := by decide +kernel
theorem dX10_torn_43 : decode cX10_torn 43 = .ok (.iload_n 1, 1) := by decide +kernel
theorem dX10_torn_44 : decode cX10_torn 44 = .ok (.iload_n 2, 1) := by decide +kernel
theorem dX10_torn_45 : decode cX10_torn 45 = .ok (.invokevirtual 122, 3) := by decide +kernel
theorem dX10_torn_48 : decode cX10_torn 48 = .ok (.ireturn, 1) := by decide +kernel
theorem dX10_tear_0 : decode cX10_tear 0 = .ok (.aload_n 0, 1) := by decide +kernel
theorem dX10_tear_1 : decode cX10_tear 1 = .ok (.invokevirtual 101, 3) := by decide +kernel
theorem dX10_tear_4 : decode cX10_tear 4 = .ok (.aload_n 0, 1) := by decide +kernel
theorem dX10_tear_5 : decode cX10_tear 5 = .ok (.iload_n 1, 1) := by decide +kernel
theorem dX10_tear_6 : decode cX10_tear 6 = .ok (.iload_n 2, 1) := by decide +kernel
theorem dX10_tear_7 : decode cX10_tear 7 = .ok (.invokevirtual 119, 3) := by decide +kernel
theorem dX10_tear_10 : decode cX10_tear 10 = .ok (.ifCond .ne 9, 3) := by decide +kernel
theorem dX10_tear_13 : decode cX10_tear 13 = .ok (.aload_n 0, 1) := by decide +kernel
theorem dX10_tear_14 : decode cX10_tear 14 = .ok (.iconst 1, 1) := by decide +kernel
theorem dX10_tear_15 : decode cX10_tear 15 = .ok (.invokevirtual 104, 3) := by decide +kernel
theorem dX10_tear_18 : decode cX10_tear 18 = .ok (.ireturn, 1) := by decide +kernel
theorem dX10_tear_19 : decode cX10_tear 19 = .ok (.aload_n 0, 1) := by decide +kernel
theorem dX10_tear_20 : decode cX10_tear 20 = .ok (.iload_n 1, 1) := by decide +kernel
theorem dX10_tear_21 : decode cX10_tear 21 = .ok (.iconst 2, 1) := by decide +kernel
theorem dX10_tear_22 : decode cX10_tear 22 = .ok (.aload_n 0, 1) := by decide +kernel
theorem dX10_tear_23 : decode cX10_tear 23 = .ok (.iload_n 1, 1) := by decide +kernel
theorem dX10_tear_24 : decode cX10_tear 24 = .ok (.iconst 2, 1) := by decide +kernel
theorem dX10_tear_25 : decode cX10_tear 25 = .ok (.invokevirtual 93, 3) := by decide +kernel
theorem dX10_tear_28 : decode cX10_tear 28 = .ok (.iconst 1, 1) := by decide +kernel
theorem dX10_tear_29 : decode cX10_tear 29 = .ok (.iload_n 2, 1) := by decide +kernel
theorem dX10_tear_30 : decode cX10_tear 30 = .ok (.ishl, 1) := by decide +kernel
theorem dX10_tear_31 : decode cX10_tear 31 = .ok (.ior, 1) := by decide +kernel
theorem dX10_tear_32 : decode cX10_tear 32 = .ok (.invokevirtual 112, 3) := by decide +kernel
theorem dX10_tear_35 : decode cX10_tear 35 = .ok (.aload_n 0, 1) := by decide +kernel
theorem dX10_tear_36 : decode cX10_tear 36 = .ok (.aload_n 0, 1) := by decide +kernel
theorem dX10_tear_37 : decode cX10_tear 37 = .ok (.iload_n 1, 1) := by decide +kernel
theorem dX10_tear_38 : decode cX10_tear 38 = .ok (.invokevirtual 125, 3) := by decide +kernel
theorem dX10_tear_41 : decode cX10_tear 41 = .ok (.invokevirtual 116, 3) := by decide +kernel
theorem dX10_tear_44 : decode cX10_tear 44 = .ok (.ireturn, 1) := by decide +kernel
theorem dX10_doMend_0 : decode cX10_doMend 0 = .ok (.aload_n 0, 1) := by decide +kernel
theorem dX10_doMend_1 : decode cX10_doMend 1 = .ok (.iload_n 1, 1) := by decide +kernel
theorem dX10_doMend_2 : decode cX10_doMend 2 = .ok (.iload_n 2, 1) := by decide +kernel
theorem dX10_doMend_3 : decode cX10_doMend 3 = .ok (.invokevirtual 119, 3) := by decide +kernel
theorem dX10_doMend_6 : decode cX10_doMend 6 = .ok (.ifCond .ne 9, 3) := by decide +kernel
theorem dX10_doMend_9 : decode cX10_doMend 9 = .ok (.aload_n 0, 1) := by decide +kernel
theorem dX10_doMend_10 : decode cX10_doMend 10 = .ok (.iconst 1, 1) := by decide +kernel
theorem dX10_doMend_11 : decode cX10_doMend 11 = .ok (.invokevirtual 104, 3) := by decide +kernel
theorem dX10_doMend_14 : decode cX10_doMend 14 = .ok (.ireturn, 1) := by decide +kernel
theorem dX10_doMend_15 : decode cX10_doMend 15 = .ok (.aload_n 0, 1) := by decide +kernel
theorem dX10_doMend_16 : decode cX10_doMend 16 = .ok (.iload_n 1, 1) := by decide +kernel
theorem dX10_doMend_17 : decode cX10_doMend 17 = .ok (.iload_n 2, 1) := by decide +kernel
theorem dX10_doMend_18 : decode cX10_doMend 18 = .ok (.invokevirtual 97, 3) := by decide +kernel
theorem dX10_doMend_21 : decode cX10_doMend 21 = .ok (.ifCond .ne 12, 3) := by decide +kernel
theorem dX10_doMend_24 : decode cX10_doMend 24 = .ok (.aload_n 0, 1) := by decide +kernel
theorem dX10_doMend_25 : decode cX10_doMend 25 = .ok (.iconst 2, 1) := by decide +kernel
theorem dX10_doMend_26 : decode cX10_doMend 26 = .ok (.bipush 11, 2) := by decide +kernel
theorem dX10_doMend_28 : decode cX10_doMend 28 = .ok (.iload_n 2, 1) := by decide +kernel
theorem dX10_doMend_29 : decode cX10_doMend 29 = .ok (.invokevirtual 108, 3) := by decide +kernel
theorem dX10_doMend_32 : decode cX10_doMend 32 = .ok (.ireturn, 1) := by decide +kernel
theorem dX10_doMend_33 : decode cX10_doMend 33 = .ok (.aload_n 0, 1) := by decide +kernel
theorem dX10_doMend_34 : decode cX10_doMend 34 = .ok (.iload_n 1, 1) := by decide +kernel
theorem dX10_doMend_35 : decode cX10_doMend 35 = .ok (.iconst 3, 1) := by decide +kernel
theorem dX10_doMend_36 : decode cX10_doMend 36 = .ok (.invokevirtual 93, 3) := by decide +kernel
theorem dX10_doMend_39 : decode cX10_doMend 39 = .ok (.ifCond .le 17, 3) := by decide +kernel
theorem dX10_doMend_42 : decode cX10_doMend 42 = .ok (.aload_n 0, 1) := by decide +kernel
theorem dX10_doMend_43 : decode cX10_doMend 43 = .ok (.iconst 2, 1) := by decide +kernel
theorem dX10_doMend_44 : decode cX10_doMend 44 = .ok (.bipush 14, 2) := by decide +kernel
theorem dX10_doMend_46 : decode cX10_doMend 46 = .ok (.aload_n 0, 1) := by decide +kernel
theorem dX10_doMend_47 : decode cX10_doMend 47 = .ok (.iload_n 1, 1) := by decide +kernel
theorem dX10_doMend_48 : decode cX10_doMend 48 = .ok (.iconst 3, 1) := by decide +kernel
theorem dX10_doMend_49 : decode cX10_doMend 49 = .ok (.invokevirtual 93, 3) := by decide +kernel
theorem dX10_doMend_52 : decode cX10_doMend 52 = .ok (.invokevirtual 108, 3) := by decide +kernel
theorem dX10_doMend_55 : decode cX10_doMend 55 = .ok (.ireturn, 1) := by decide +kernel
theorem dX10_doMend_56 : decode cX10_doMend 56 = .ok (.aload_n 0, 1) := by decide +kernel
theorem dX10_doMend_57 : decode cX10_doMend 57 = .ok (.getfield 9, 3) := by decide +kernel
theorem dX10_doMend_60 : decode cX10_doMend 60 = .ok (.bipush 7, 2) := by decide +kernel
theorem dX10_doMend_62 : decode cX10_doMend 62 = .ok (.iaload, 1) := by decide +kernel
theorem dX10_doMend_63 : decode cX10_doMend 63 = .ok (.iconst 2, 1) := by decide +kernel
theorem dX10_doMend_64 : decode cX10_doMend 64 = .ok (.if_icmp .ge 20, 3) := by decide +kernel
theorem dX10_doMend_67 : decode cX10_doMend 67 = .ok (.aload_n 0, 1) := by decide +kernel
theorem dX10_doMend_68 : decode cX10_doMend 68 = .ok (.iconst 2, 1) := by decide +kernel
theorem dX10_doMend_69 : decode cX10_doMend 69 = .ok (.bipush 12, 2) := by decide +kernel
theorem dX10_doMend_71 : decode cX10_doMend 71 = .ok (.iconst 2, 1) := by decide +kernel
theorem dX10_doMend_72 : decode cX10_doMend 72 = .ok (.aload_n 0, 1) := by decide +kernel
theorem dX10_doMend_73 : decode cX10_doMend 73 = .ok (.getfield 9, 3) := by decide +kernel
theorem dX10_doMend_76 : decode cX10_doMend 76 = .ok (.bipush 7, 2) := by decide +kernel
theorem dX10_doMend_78 : decode cX10_doMend 78 = .ok (.iaload, 1) := by decide +kernel
theorem dX10_doMend_79 : decode cX10_doMend 79 = .ok (.isub, 1) := by decide +kernel
theorem dX10_doMend_80 : decode cX10_doMend 80 = .ok (.invokevirtual 108, 3) := by decide +kernel
theorem dX10_doMend_83 : decode cX10_doMend 83 = .ok (.ireturn, 1) := by decide +kernel
theorem dX10_doMend_84 : decode cX10_doMend 84 = .ok (.aload_n 0, 1) := by decide +kernel
theorem dX10_doMend_85 : decode cX10_doMend 85 = .ok (.getfield 9, 3) := by decide +kernel
theorem dX10_doMend_88 : decode cX10_doMend 88 = .ok (.bipush 7, 2) := by decide +kernel
theorem dX10_doMend_90 : decode cX10_doMend 90 = .ok (.dup2, 1) := by decide +kernel
theorem dX10_doMend_91 : decode cX10_doMend 91 = .ok (.iaload, 1) := by decide +kernel
theorem dX10_doMend_92 : decode cX10_doMend 92 = .ok (.iconst 2, 1) := by decide +kernel
theorem dX10_doMend_93 : decode cX10_doMend 93 = .ok (.isub, 1) := by decide +kernel
theorem dX10_doMend_94 : decode cX10_doMend 94 = .ok (.iastore, 1) := by decide +kernel
theorem dX10_doMend_95 : decode cX10_doMend 95 = .ok (.aload_n 0, 1) := by decide +kernel
theorem dX10_doMend_96 : decode cX10_doMend 96 = .ok (.iload_n 1, 1) := by decide +kernel
theorem dX10_doMend_97 : decode cX10_doMend 97 = .ok (.iconst 2, 1) := by decide +kernel
theorem dX10_doMend_98 : decode cX10_doMend 98 = .ok (.aload_n 0, 1) := by decide +kernel
theorem dX10_doMend_99 : decode cX10_doMend 99 = .ok (.iload_n 1, 1) := by decide +kernel
theorem dX10_doMend_100 : decode cX10_doMend 100 = .ok (.iconst 2, 1) := by decide +kernel
theorem dX10_doMend_101 : decode cX10_doMend 101 = .ok (.invokevirtual 93, 3) := by decide +kernel
theorem dX10_doMend_104 : decode cX10_doMend 104 = .ok (.iconst 1, 1) := by decide +kernel
theorem dX10_doMend_105 : decode cX10_doMend 105 = .ok (.iload_n 2, 1) := by decide +kernel
theorem dX10_doMend_106 : decode cX10_doMend 106 = .ok (.ishl, 1) := by decide +kernel
theorem dX10_doMend_107 : decode cX10_doMend 107 = .ok (.iconst (-1), 1) := by decide +kernel
theorem dX10_doMend_108 : decode cX10_doMend 108 = .ok (.ixor, 1) := by decide +kernel
theorem dX10_doMend_109 : decode cX10_doMend 109 = .ok (.iand, 1) := by decide +kernel
theorem dX10_doMend_110 : decode cX10_doMend 110 = .ok (.invokevirtual 112, 3) := by decide +kernel
theorem dX10_doMend_113 : decode cX10_doMend 113 = .ok (.aload_n 0, 1) := by decide +kernel
theorem dX10_doMend_114 : decode cX10_doMend 114 = .ok (.iload_n 1, 1) := by decide +kernel
theorem dX10_doMend_115 : decode cX10_doMend 115 = .ok (.invokevirtual 125, 3) := by decide +kernel
theorem dX10_doMend_118 : decode cX10_doMend 118 = .ok (.ireturn, 1) := by decide +kernel
theorem dX10_mend_0 : decode cX10_mend 0 = .ok (.aload_n 0, 1) := by decide +kernel
theorem dX10_mend_1 : decode cX10_mend 1 = .ok (.invokevirtual 101, 3) := by decide +kernel
theorem dX10_mend_4 : decode cX10_mend 4 = .ok (.aload_n 0, 1) := by decide +kernel
theorem dX10_mend_5 : decode cX10_mend 5 = .ok (.aload_n 0, 1) := by decide +kernel
theorem dX10_mend_6 : decode cX10_mend 6 = .ok (.iload_n 1, 1) := by decide +kernel
theorem dX10_mend_7 : decode cX10_mend 7 = .ok (.iload_n 2, 1) := by decide +kernel
theorem dX10_mend_8 : decode cX10_mend 8 = .ok (.invokevirtual 128, 3) := by decide +kernel
theorem dX10_mend_11 : decode cX10_mend 11 = .ok (.invokevirtual 116, 3) := by decide +kernel
theorem dX10_mend_14 : decode cX10_mend 14 = .ok (.ireturn, 1) := by decide +kernel
theorem dX10_bestTub_0 : decode cX10_bestTub 0 = .ok (.iconst (-1), 1) := by decide +kernel
theorem dX10_bestTub_1 : decode cX10_bestTub 1 = .ok (.istore_n 1, 1) := by decide +kernel
theorem dX10_bestTub_2 : decode cX10_bestTub 2 = .ok (.iconst 0, 1) := by decide +kernel
theorem dX10_bestTub_3 : decode cX10_bestTub 3 = .ok (.istore_n 2, 1) := by decide +kernel
theorem dX10_bestTub_4 : decode cX10_bestTub 4 = .ok (.iload_n 2, 1) := by decide +kernel
theorem dX10_bestTub_5 : decode cX10_bestTub 5 = .ok (.aload_n 0, 1) := by decide +kernel
theorem dX10_bestTub_6 : decode cX10_bestTub 6 = .ok (.getfield 9, 3) := by decide +kernel
theorem dX10_bestTub_9 : decode cX10_bestTub 9 = .ok (.iconst 1, 1) := by decide +kernel
theorem dX10_bestTub_10 : decode cX10_bestTub 10 = .ok (.iaload, 1) := by decide +kernel
theorem dX10_bestTub_11 : decode cX10_bestTub 11 = .ok (.if_icmp .ge 83, 3) := by decide +kernel
theorem dX10_bestTub_14 : decode cX10_bestTub 14 = .ok (.iload_n 1, 1) := by decide +kernel
theorem dX10_bestTub_15 : decode cX10_bestTub 15 = .ok (.ifCond .ge 7, 3) := by decide +kernel
theorem dX10_bestTub_18 : decode cX10_bestTub 18 = .ok (.iconst 1, 1) := by decide +kernel
theorem dX10_bestTub_19 : decode cX10_bestTub 19 = .ok (.goto 16, 3) := by decide +kernel
theorem dX10_bestTub_22 : decode cX10_bestTub 22 = .ok (.aload_n 0, 1) := by decide +kernel
theorem dX10_bestTub_23 : decode cX10_bestTub 23 = .ok (.iload_n 2, 1) := by decide +kernel
theorem dX10_bestTub_24 : decode cX10_bestTub 24 = .ok (.iconst 0, 1) := by decide +kernel
theorem dX10_bestTub_25 : decode cX10_bestTub 25 = .ok (.invokevirtual 93, 3) := by decide +kernel
theorem dX10_bestTub_28 : decode cX10_bestTub 28 = .ok (.aload_n 0, 1) := by decide +kernel
theorem dX10_bestTub_29 : decode cX10_bestTub 29 = .ok (.iload_n 1, 1) := by decide +kernel
theorem dX10_bestTub_30 : decode cX10_bestTub 30 = .ok (.iconst 0, 1) := by decide +kernel
theorem dX10_bestTub_31 : decode cX10_bestTub 31 = .ok (.invokevirtual 93, 3) := by decide +kernel
theorem dX10_bestTub_34 : decode cX10_bestTub 34 = .ok (.isub, 1) := by decide +kernel
theorem dX10_bestTub_35 : decode cX10_bestTub 35 = .ok (.istore_n 3, 1) := by decide +kernel
theorem dX10_bestTub_36 : decode cX10_bestTub 36 = .ok (.iload_n 3, 1) := by decide +kernel
theorem dX10_bestTub_37 : decode cX10_bestTub 37 = .ok (.ifCond .eq 7, 3) := by decide +kernel
theorem dX10_bestTub_40 : decode cX10_bestTub 40 = .ok (.iload_n 3, 1) := by decide +kernel
theorem dX10_bestTub_41 : decode cX10_bestTub 41 = .ok (.goto 18, 3) := by decide +kernel
theorem dX10_bestTub_44 : decode cX10_bestTub 44 = .ok (.aload_n 0, 1) := by decide +kernel
theorem dX10_bestTub_45 : decode cX10_bestTub 45 = .ok (.iload_n 1, 1) := by decide +kernel
theorem dX10_bestTub_46 : decode cX10_bestTub 46 = .ok (.bipush 6, 2) := by decide +kernel
theorem dX10_bestTub_48 : decode cX10_bestTub 48 = .ok (.invokevirtual 93, 3) := by decide +kernel
theorem dX10_bestTub_51 : decode cX10_bestTub 51 = .ok (.aload_n 0, 1) := by decide +kernel
theorem dX10_bestTub_52 : decode cX10_bestTub 52 = .ok (.iload_n 2, 1) := by decide +kernel
theorem dX10_bestTub_53 : decode cX10_bestTub 53 = .ok (.bipush 6, 2) := by decide +kernel
theorem dX10_bestTub_55 : decode cX10_bestTub 55 = .ok (.invokevirtual 93, 3) := by decide +kernel
theorem dX10_bestTub_58 : decode cX10_bestTub 58 = .ok (.isub, 1) := by decide +kernel
theorem dX10_bestTub_59 : decode cX10_bestTub 59 = .ok (.istore_n 3, 1) := by decide +kernel
theorem dX10_bestTub_60 : decode cX10_bestTub 60 = .ok (.aload_n 0, 1) := by decide +kernel
theorem dX10_bestTub_61 : decode cX10_bestTub 61 = .ok (.iload_n 2, 1) := by decide +kernel
theorem dX10_bestTub_62 : decode cX10_bestTub 62 = .ok (.iconst 1, 1) := by decide +kernel
theorem dX10_bestTub_63 : decode cX10_bestTub 63 = .ok (.invokevirtual 93, 3) := by decide +kernel
theorem dX10_bestTub_66 : decode cX10_bestTub 66 = .ok (.ifCond .ge 20, 3) := by decide +kernel
theorem dX10_bestTub_69 : decode cX10_bestTub 69 = .ok (.aload_n 0, 1) := by decide +kernel
theorem dX10_bestTub_70 : decode cX10_bestTub 70 = .ok (.iload_n 2, 1) := by decide +kernel
theorem dX10_bestTub_71 : decode cX10_bestTub 71 = .ok (.iconst 2, 1) := by decide +kernel
theorem dX10_bestTub_72 : decode cX10_bestTub 72 = .ok (.invokevirtual 93, 3) := by decide +kernel
theorem dX10_bestTub_75 : decode cX10_bestTub 75 = .ok (.ifCond .ne 11, 3) := by decide +kernel
theorem dX10_bestTub_78 : decode cX10_bestTub 78 = .ok (.iload_n 3, 1) := by decide +kernel
theorem dX10_bestTub_79 : decode cX10_bestTub 79 = .ok (.ifCond .le 7, 3) := by decide +kernel
theorem dX10_bestTub_82 : decode cX10_bestTub 82 = .ok (.iload_n 2, 1) := by decide +kernel
theorem dX10_bestTub_83 : decode cX10_bestTub 83 = .ok (.goto 4, 3) := by decide +kernel
theorem dX10_bestTub_86 : decode cX10_bestTub 86 = .ok (.iload_n 1, 1) := by decide +kernel
theorem dX10_bestTub_87 : decode cX10_bestTub 87 = .ok (.istore_n 1, 1) := by decide +kernel
theorem dX10_bestTub_88 : decode cX10_bestTub 88 = .ok (.iinc 2 1, 3) := by decide +kernel
theorem dX10_bestTub_91 : decode cX10_bestTub 91 = .ok (.goto (-87), 3) := by decide +kernel
theorem dX10_bestTub_94 : decode cX10_bestTub 94 = .ok (.aload_n 0, 1) := by decide +kernel
theorem dX10_bestTub_95 : decode cX10_bestTub 95 = .ok (.iload_n 1, 1) := by decide +kernel
theorem dX10_bestTub_96 : decode cX10_bestTub 96 = .ok (.ifCond .ge 7, 3) := by decide +kernel
theorem dX10_bestTub_99 : decode cX10_bestTub 99 = .ok (.iconst 1, 1) := by decide +kernel
theorem dX10_bestTub_100 : decode cX10_bestTub 100 = .ok (.goto 4, 3) := by decide +kernel
theorem dX10_bestTub_103 : decode cX10_bestTub 103 = .ok (.iconst 0, 1) := by decide +kernel
theorem dX10_bestTub_104 : decode cX10_bestTub 104 = .ok (.putfield 63, 3) := by decide +kernel
theorem dX10_bestTub_107 : decode cX10_bestTub 107 = .ok (.aload_n 0, 1) := by decide +kernel
theorem dX10_bestTub_108 : decode cX10_bestTub 108 = .ok (.getfield 63, 3) := by decide +kernel
theorem dX10_bestTub_111 : decode cX10_bestTub 111 = .ok (.ifCond .le 7, 3) := by decide +kernel
theorem dX10_bestTub_114 : decode cX10_bestTub 114 = .ok (.iconst 0, 1) := by decide +kernel
theorem dX10_bestTub_115 : decode cX10_bestTub 115 = .ok (.goto 4, 3) := by decide +kernel
theorem dX10_bestTub_118 : decode cX10_bestTub 118 = .ok (.iload_n 1, 1) := by decide +kernel
theorem dX10_bestTub_119 : decode cX10_bestTub 119 = .ok (.ireturn, 1) := by decide +kernel
theorem dX10_doOut_0 : decode cX10_doOut 0 = .ok (.aload_n 0, 1) := by decide +kernel
theorem dX10_doOut_1 : decode cX10_doOut 1 = .ok (.iload_n 1, 1) := by decide +kernel
theorem dX10_doOut_2 : decode cX10_doOut 2 = .ok (.invokevirtual 89, 3) := by decide +kernel
theorem dX10_doOut_5 : decode cX10_doOut 5 = .ok (.ifCond .eq 11, 3) := by decide +kernel
theorem dX10_doOut_8 : decode cX10_doOut 8 = .ok (.aload_n 0, 1) := by decide +kernel
theorem dX10_doOut_9 : decode cX10_doOut 9 = .ok (.iload_n 2, 1) := by decide +kernel
theorem dX10_doOut_10 : decode cX10_doOut 10 = .ok (.invokevirtual 131, 3) := by decide +kernel
theorem dX10_doOut_13 : decode cX10_doOut 13 = .ok (.ifCond .ne 9, 3) := by decide +kernel
theorem dX10_doOut_16 : decode cX10_doOut 16 = .ok (.aload_n 0, 1) := by decide +kernel
theorem dX10_doOut_17 : decode cX10_doOut 17 = .ok (.iconst 1, 1) := by decide +kernel
theorem dX10_doOut_18 : decode cX10_doOut 18 = .ok (.invokevirtual 104, 3) := by decide +kernel
theorem dX10_doOut_21 : decode cX10_doOut 21 = .ok (.ireturn, 1) := by decide +kernel
theorem dX10_doOut_22 : decode cX10_doOut 22 = .ok (.aload_n 0, 1) := by decide +kernel
theorem dX10_doOut_23 : decode cX10_doOut 23 = .ok (.iload_n 1, 1) := by decide +kernel
theorem dX10_doOut_24 : decode cX10_doOut 24 = .ok (.iconst 1, 1) := by decide +kernel
theorem dX10_doOut_25 : decode cX10_doOut 25 = .ok (.invokevirtual 93, 3) := by decide +kernel
theorem dX10_doOut_28 : decode cX10_doOut 28 = .ok (.ifCond .lt 16, 3) := by decide +kernel
theorem dX10_doOut_31 : decode cX10_doOut 31 = .ok (.aload_n 0, 1) := by decide +kernel
theorem dX10_doOut_32 : decode cX10_doOut 32 = .ok (.iconst 2, 1) := by decide +kernel
theorem dX10_doOut_33 : decode cX10_doOut 33 = .ok (.iconst 2, 1) := by decide +kernel
theorem dX10_doOut_34 : decode cX10_doOut 34 = .ok (.aload_n 0, 1) := by decide +kernel
theorem dX10_doOut_35 : decode cX10_doOut 35 = .ok (.iload_n 1, 1) := by decide +kernel
theorem dX10_doOut_36 : decode cX10_doOut 36 = .ok (.iconst 1, 1) := by decide +kernel
theorem dX10_doOut_37 : decode cX10_doOut 37 = .ok (.invokevirtual 93, 3) := by decide +kernel
theorem dX10_doOut_40 : decode cX10_doOut 40 = .ok (.invokevirtual 108, 3) := by decide +kernel
theorem dX10_doOut_43 : decode cX10_doOut 43 = .ok (.ireturn, 1) := by decide +kernel
theorem dX10_doOut_44 : decode cX10_doOut 44 = .ok (.aload_n 0, 1) := by decide +kernel
theorem dX10_doOut_45 : decode cX10_doOut 45 = .ok (.iload_n 1, 1) := by decide +kernel
theorem dX10_doOut_46 : decode cX10_doOut 46 = .ok (.iconst 2, 1) := by decide +kernel
theorem dX10_doOut_47 : decode cX10_doOut 47 = .ok (.invokevirtual 93, 3) := by decide +kernel
theorem dX10_doOut_50 : decode cX10_doOut 50 = .ok (.ifCond .eq 16, 3) := by decide +kernel
theorem dX10_doOut_53 : decode cX10_doOut 53 = .ok (.aload_n 0, 1) := by decide +kernel
theorem dX10_doOut_54 : decode cX10_doOut 54 = .ok (.iconst 2, 1) := by decide +kernel
theorem dX10_doOut_55 : decode cX10_doOut 55 = .ok (.iconst 3, 1) := by decide +kernel
theorem dX10_doOut_56 : decode cX10_doOut 56 = .ok (.aload_n 0, 1) := by decide +kernel
theorem dX10_doOut_57 : decode cX10_doOut 57 = .ok (.iload_n 1, 1) := by decide +kernel
theorem dX10_doOut_58 : decode cX10_doOut 58 = .ok (.iconst 0, 1) := by decide +kernel
theorem dX10_doOut_59 : decode cX10_doOut 59 = .ok (.invokevirtual 122, 3) := by decide +kernel
theorem dX10_doOut_62 : decode cX10_doOut 62 = .ok (.invokevirtual 108, 3) := by decide +kernel
theorem dX10_doOut_65 : decode cX10_doOut 65 = .ok (.ireturn, 1) := by decide +kernel
theorem dX10_doOut_66 : decode cX10_doOut 66 = .ok (.aload_n 0, 1) := by decide +kernel
theorem dX10_doOut_67 : decode cX10_doOut 67 = .ok (.iload_n 2, 1) := by decide +kernel
theorem dX10_doOut_68 : decode cX10_doOut 68 = .ok (.iconst 1, 1) := by decide +kernel
theorem dX10_doOut_69 : decode cX10_doOut 69 = .ok (.invokevirtual 134, 3) := by decide +kernel
theorem dX10_doOut_72 : decode cX10_doOut 72 = .ok (.ifCond .lt 16, 3) := by decide +kernel
theorem dX10_doOut_75 : decode cX10_doOut 75 = .ok (.aload_n 0, 1) := by decide +kernel
theorem dX10_doOut_76 : decode cX10_doOut 76 = .ok (.iconst 2, 1) := by decide +kernel
theorem dX10_doOut_77 : decode cX10_doOut 77 = .ok (.iconst 4, 1) := by decide +kernel
theorem dX10_doOut_78 : decode cX10_doOut 78 = .ok (.aload_n 0, 1) := by decide +kernel
theorem dX10_doOut_79 : decode cX10_doOut 79 = .ok (.iload_n 2, 1) := by decide +kernel
theorem dX10_doOut_80 : decode cX10_doOut 80 = .ok (.iconst 1, 1) := by decide +kernel
theorem dX10_doOut_81 : decode cX10_doOut 81 = .ok (.invokevirtual 134, 3) := by decide +kernel
theorem dX10_doOut_84 : decode cX10_doOut 84 = .ok (.invokevirtual 108, 3) := by decide +kernel
theorem dX10_doOut_87 : decode cX10_doOut 87 = .ok (.ireturn, 1) := by decide +kernel
theorem dX10_doOut_88 : decode cX10_doOut 88 = .ok (.aload_n 0, 1) := by decide +kernel
theorem dX10_doOut_89 : decode cX10_doOut 89 = .ok (.getfield 9, 3) := by decide +kernel
theorem dX10_doOut_92 : decode cX10_doOut 92 = .ok (.bipush 7, 2) := by decide +kernel
theorem dX10_doOut_94 : decode cX10_doOut 94 = .ok (.dup2, 1) := by decide +kernel
theorem dX10_doOut_95 : decode cX10_doOut 95 = .ok (.iaload, 1) := by decide +kernel
theorem dX10_doOut_96 : decode cX10_doOut 96 = .ok (.iconst 2, 1) := by decide +kernel
theorem dX10_doOut_97 : decode cX10_doOut 97 = .ok (.aload_n 0, 1) := by decide +kernel
theorem dX10_doOut_98 : decode cX10_doOut 98 = .ok (.iload_n 1, 1) := by decide +kernel
theorem dX10_doOut_99 : decode cX10_doOut 99 = .ok (.iconst 0, 1) := by decide +kernel
theorem dX10_doOut_100 : decode cX10_doOut 100 = .ok (.invokevirtual 93, 3) := by decide +kernel
theorem dX10_doOut_103 : decode cX10_doOut 103 = .ok (.imul, 1) := by decide +kernel
theorem dX10_doOut_104 : decode cX10_doOut 104 = .ok (.iadd, 1) := by decide +kernel
theorem dX10_doOut_105 : decode cX10_doOut 105 = .ok (.iastore, 1) := by decide +kernel
theorem dX10_doOut_106 : decode cX10_doOut 106 = .ok (.aload_n 0, 1) := by decide +kernel
theorem dX10_doOut_107 : decode cX10_doOut 107 = .ok (.iload_n 1, 1) := by decide +kernel
theorem dX10_doOut_108 : decode cX10_doOut 108 = .ok (.iconst 1, 1) := by decide +kernel
theorem dX10_doOut_109 : decode cX10_doOut 109 = .ok (.iload_n 2, 1) := by decide +kernel
theorem dX10_doOut_110 : decode cX10_doOut 110 = .ok (.invokevirtual 112, 3) := by decide +kernel
theorem dX10_doOut_113 : decode cX10_doOut 113 = .ok (.aload_n 0, 1) := by decide +kernel
theorem dX10_doOut_114 : decode cX10_doOut 114 = .ok (.iload_n 1, 1) := by decide +kernel
theorem dX10_doOut_115 : decode cX10_doOut 115 = .ok (.iconst 3, 1) := by decide +kernel
theorem dX10_doOut_116 : decode cX10_doOut 116 = .ok (.iconst 0, 1) := by decide +kernel
theorem dX10_doOut_117 : decode cX10_doOut 117 = .ok (.invokevirtual 112, 3) := by decide +kernel
theorem dX10_doOut_120 : decode cX10_doOut 120 = .ok (.aload_n 0, 1) := by decide +kernel
theorem dX10_doOut_121 : decode cX10_doOut 121 = .ok (.iload_n 1, 1) := by decide +kernel
theorem dX10_doOut_122 : decode cX10_doOut 122 = .ok (.iconst 5, 1) := by decide +kernel
theorem dX10_doOut_123 : decode cX10_doOut 123 = .ok (.iconst 0, 1) := by decide +kernel
theorem dX10_doOut_124 : decode cX10_doOut 124 = .ok (.invokevirtual 112, 3) := by decide +kernel
theorem dX10_doOut_127 : decode cX10_doOut 127 = .ok (.aload_n 0, 1) := by decide +kernel
theorem dX10_doOut_128 : decode cX10_doOut 128 = .ok (.iload_n 2, 1) := by decide +kernel
theorem dX10_doOut_129 : decode cX10_doOut 129 = .ok (.iconst 1, 1) := by decide +kernel
theorem dX10_doOut_130 : decode cX10_doOut 130 = .ok (.iload_n 1, 1) := by decide +kernel
theorem dX10_doOut_131 : decode cX10_doOut 131 = .ok (.invokevirtual 137, 3) := by decide +kernel
theorem dX10_doOut_134 : decode cX10_doOut 134 = .ok (.aload_n 0, 1) := by decide +kernel
theorem dX10_doOut_135 : decode cX10_doOut 135 = .ok (.getfield 9, 3) := by decide +kernel
theorem dX10_doOut_138 : decode cX10_doOut 138 = .ok (.bipush 7, 2) := by decide +kernel
theorem dX10_doOut_140 : decode cX10_doOut 140 = .ok (.iaload, 1) := by decide +kernel
theorem dX10_doOut_141 : decode cX10_doOut 141 = .ok (.ireturn, 1) := by decide +kernel
theorem dX10_out_0 : decode cX10_out 0 = .ok (.aload_n 0, 1) := by decide +kernel
theorem dX10_out_1 : decode cX10_out 1 = .ok (.invokevirtual 101, 3) := by decide +kernel
theorem dX10_out_4 : decode cX10_out 4 = .ok (.aload_n 0, 1) := by decide +kernel
theorem dX10_out_5 : decode cX10_out 5 = .ok (.aload_n 0, 1) := by decide +kernel
theorem dX10_out_6 : decode cX10_out 6 = .ok (.iload_n 1, 1) := by decide +kernel
theorem dX10_out_7 : decode cX10_out 7 = .ok (.iload_n 2, 1) := by decide +kernel
theorem dX10_out_8 : decode cX10_out 8 = .ok (.invokevirtual 140, 3) := by decide +kernel
theorem dX10_out_11 : decode cX10_out 11 = .ok (.invokevirtual 116, 3) := by decide +kernel
theorem dX10_out_14 : decode cX10_out 14 = .ok (.ireturn, 1) := by decide +kernel
theorem dX10_doBack_0 : decode cX10_doBack 0 = .ok (.aload_n 0, 1) := by decide +kernel
theorem dX10_doBack_1 : decode cX10_doBack 1 = .ok (.iload_n 1, 1) := by decide +kernel
theorem dX10_doBack_2 : decode cX10_doBack 2 = .ok (.invokevirtual 89, 3) := by decide +kernel
theorem dX10_doBack_5 : decode cX10_doBack 5 = .ok (.ifCond .ne 9, 3) := by decide +kernel
theorem dX10_doBack_8 : decode cX10_doBack 8 = .ok (.aload_n 0, 1) := by decide +kernel
theorem dX10_doBack_9 : decode cX10_doBack 9 = .ok (.iconst 1, 1) := by decide +kernel
theorem dX10_doBack_10 : decode cX10_doBack 10 = .ok (.invokevirtual 104, 3) := by decide +kernel
theorem dX10_doBack_13 : decode cX10_doBack 13 = .ok (.ireturn, 1) := by decide +kernel
theorem dX10_doBack_14 : decode cX10_doBack 14 = .ok (.aload_n 0, 1) := by decide +kernel
theorem dX10_doBack_15 : decode cX10_doBack 15 = .ok (.iload_n 1, 1) := by decide +kernel
theorem dX10_doBack_16 : decode cX10_doBack 16 = .ok (.iconst 1, 1) := by decide +kernel
theorem dX10_doBack_17 : decode cX10_doBack 17 = .ok (.invokevirtual 93, 3) := by decide +kernel
theorem dX10_doBack_20 : decode cX10_doBack 20 = .ok (.istore_n 2, 1) := by decide +kernel
theorem dX10_doBack_21 : decode cX10_doBack 21 = .ok (.aload_n 0, 1) := by decide +kernel
theorem dX10_doBack_22 : decode cX10_doBack 22 = .ok (.iload_n 1, 1) := by decide +kernel
theorem dX10_doBack_23 : decode cX10_doBack 23 = .ok (.iconst 3, 1) := by decide +kernel
theorem dX10_doBack_24 : decode cX10_doBack 24 = .ok (.invokevirtual 93, 3) := by decide +kernel
theorem dX10_doBack_27 : decode cX10_doBack 27 = .ok (.istore_n 3, 1) := by decide +kernel
theorem dX10_doBack_28 : decode cX10_doBack 28 = .ok (.iload_n 2, 1) := by decide +kernel
theorem dX10_doBack_29 : decode cX10_doBack 29 = .ok (.ifCond .ge 11, 3) := by decide +kernel
theorem dX10_doBack_32 : decode cX10_doBack 32 = .ok (.aload_n 0, 1) := by decide +kernel
theorem dX10_doBack_33 : decode cX10_doBack 33 = .ok (.iconst 2, 1) := by decide +kernel
theorem dX10_doBack_34 : decode cX10_doBack 34 = .ok (.iconst 5, 1) := by decide +kernel
theorem dX10_doBack_35 : decode cX10_doBack 35 = .ok (.iload_n 1, 1) := by decide +kernel
theorem dX10_doBack_36 : decode cX10_doBack 36 = .ok (.invokevirtual 108, 3) := by decide +kernel
theorem dX10_doBack_39 : decode cX10_doBack 39 = .ok (.ireturn, 1) := by decide +kernel
theorem dX10_doBack_40 : decode cX10_doBack 40 = .ok (.aload_n 0, 1) := by decide +kernel
theorem dX10_doBack_41 : decode cX10_doBack 41 = .ok (.iload_n 1, 1) := by decide +kernel
theorem dX10_doBack_42 : decode cX10_doBack 42 = .ok (.iconst 1, 1) := by decide +kernel
theorem dX10_doBack_43 : decode cX10_doBack 43 = .ok (.iconst (-1), 1) := by decide +kernel
theorem dX10_doBack_44 : decode cX10_doBack 44 = .ok (.invokevirtual 112, 3) := by decide +kernel
theorem dX10_doBack_47 : decode cX10_doBack 47 = .ok (.aload_n 0, 1) := by decide +kernel
theorem dX10_doBack_48 : decode cX10_doBack 48 = .ok (.iload_n 1, 1) := by decide +kernel
theorem dX10_doBack_49 : decode cX10_doBack 49 = .ok (.iconst 3, 1) := by decide +kernel
theorem dX10_doBack_50 : decode cX10_doBack 50 = .ok (.iconst 0, 1) := by decide +kernel
theorem dX10_doBack_51 : decode cX10_doBack 51 = .ok (.invokevirtual 112, 3) := by decide +kernel
theorem dX10_doBack_54 : decode cX10_doBack 54 = .ok (.aload_n 0, 1) := by decide +kernel
theorem dX10_doBack_55 : decode cX10_doBack 55 = .ok (.iload_n 1, 1) := by decide +kernel
theorem dX10_doBack_56 : decode cX10_doBack 56 = .ok (.iconst 5, 1) := by decide +kernel
theorem dX10_doBack_57 : decode cX10_doBack 57 = .ok (.iconst 0, 1) := by decide +kernel
theorem dX10_doBack_58 : decode cX10_doBack 58 = .ok (.invokevirtual 112, 3) := by decide +kernel
theorem dX10_doBack_61 : decode cX10_doBack 61 = .ok (.aload_n 0, 1) := by decide +kernel
theorem dX10_doBack_62 : decode cX10_doBack 62 = .ok (.iload_n 2, 1) := by decide +kernel
theorem dX10_doBack_63 : decode cX10_doBack 63 = .ok (.iconst 1, 1) := by decide +kernel
theorem dX10_doBack_64 : decode cX10_doBack 64 = .ok (.iconst (-1), 1) := by decide +kernel
theorem dX10_doBack_65 : decode cX10_doBack 65 = .ok (.invokevirtual 137, 3) := by decide +kernel
theorem dX10_doBack_68 : decode cX10_doBack 68 = .ok (.iload_n 3, 1) := by decide +kernel
theorem dX10_doBack_69 : decode cX10_doBack 69 = .ok (.ireturn, 1) := by decide +kernel
theorem dX10_back_0 : decode cX10_back 0 = .ok (.aload_n 0, 1) := by decide +kernel
theorem dX10_back_1 : decode cX10_back 1 = .ok (.invokevirtual 101, 3) := by decide +kernel
theorem dX10_back_4 : decode cX10_back 4 = .ok (.aload_n 0, 1) := by decide +kernel
theorem dX10_back_5 : decode cX10_back 5 = .ok (.aload_n 0, 1) := by decide +kernel
theorem dX10_back_6 : decode cX10_back 6 = .ok (.iload_n 1, 1) := by decide +kernel
theorem dX10_back_7 : decode cX10_back 7 = .ok (.invokevirtual 143, 3) := by decide +kernel
theorem dX10_back_10 : decode cX10_back 10 = .ok (.invokevirtual 116, 3) := by decide +kernel
theorem dX10_back_13 : decode cX10_back 13 = .ok (.ireturn, 1) := by decide +kernel
theorem dX10_tent_0 : decode cX10_tent 0 = .ok (.aload_n 0, 1) := by decide +kernel
theorem dX10_tent_1 : decode cX10_tent 1 = .ok (.getfield 9, 3) := by decide +kernel
theorem dX10_tent_4 : decode cX10_tent 4 = .ok (.iconst 2, 1) := by decide +kernel
theorem dX10_tent_5 : decode cX10_tent 5 = .ok (.iaload, 1) := by decide +kernel
theorem dX10_tent_6 : decode cX10_tent 6 = .ok (.istore_n 2, 1) := by decide +kernel
theorem dX10_tent_7 : decode cX10_tent 7 = .ok (.aload_n 0, 1) := by decide +kernel
theorem dX10_tent_8 : decode cX10_tent 8 = .ok (.invokevirtual 101, 3) := by decide +kernel
theorem dX10_tent_11 : decode cX10_tent 11 = .ok (.iload_n 1, 1) := by decide +kernel
theorem dX10_tent_12 : decode cX10_tent 12 = .ok (.iconst 0, 1) := by decide +kernel
theorem dX10_tent_13 : decode cX10_tent 13 = .ok (.bipush 9, 2) := by decide +kernel
theorem dX10_tent_15 : decode cX10_tent 15 = .ok (.invokestatic 85, 3) := by decide +kernel
theorem dX10_tent_18 : decode cX10_tent 18 = .ok (.ifCond .ne 9, 3) := by decide +kernel
theorem dX10_tent_21 : decode cX10_tent 21 = .ok (.aload_n 0, 1) := by decide +kernel
theorem dX10_tent_22 : decode cX10_tent 22 = .ok (.iconst 1, 1) := by decide +kernel
theorem dX10_tent_23 : decode cX10_tent 23 = .ok (.invokevirtual 104, 3) := by decide +kernel
theorem dX10_tent_26 : decode cX10_tent 26 = .ok (.ireturn, 1) := by decide +kernel
theorem dX10_tent_27 : decode cX10_tent 27 = .ok (.iload_n 2, 1) := by decide +kernel
theorem dX10_tent_28 : decode cX10_tent 28 = .ok (.iconst 5, 1) := by decide +kernel
theorem dX10_tent_29 : decode cX10_tent 29 = .ok (.if_icmp .ne 11, 3) := by decide +kernel
theorem dX10_tent_32 : decode cX10_tent 32 = .ok (.aload_n 0, 1) := by decide +kernel
theorem dX10_tent_33 : decode cX10_tent 33 = .ok (.iconst 2, 1) := by decide +kernel
theorem dX10_tent_34 : decode cX10_tent 34 = .ok (.iconst 1, 1) := by decide +kernel
theorem dX10_tent_35 : decode cX10_tent 35 = .ok (.iconst 5, 1) := by decide +kernel
theorem dX10_tent_36 : decode cX10_tent 36 = .ok (.invokevirtual 108, 3) := by decide +kernel
theorem dX10_tent_39 : decode cX10_tent 39 = .ok (.ireturn, 1) := by decide +kernel
theorem dX10_tent_40 : decode cX10_tent 40 = .ok (.iconst 0, 1) := by decide +kernel
theorem dX10_tent_41 : decode cX10_tent 41 = .ok (.istore_n 3, 1) := by decide +kernel
theorem dX10_tent_42 : decode cX10_tent 42 = .ok (.iload_n 3, 1) := by decide +kernel
theorem dX10_tent_43 : decode cX10_tent 43 = .ok (.bipush 11, 2) := by decide +kernel
theorem dX10_tent_45 : decode cX10_tent 45 = .ok (.if_icmp .ge 38, 3) := by decide +kernel
theorem dX10_tent_48 : decode cX10_tent 48 = .ok (.aload_n 0, 1) := by decide +kernel
theorem dX10_tent_49 : decode cX10_tent 49 = .ok (.iload_n 2, 1) := by decide +kernel
theorem dX10_tent_50 : decode cX10_tent 50 = .ok (.iload_n 3, 1) := by decide +kernel
theorem dX10_tent_51 : decode cX10_tent 51 = .ok (.iload_n 3, 1) := by decide +kernel
theorem dX10_tent_52 : decode cX10_tent 52 = .ok (.ifCond .ne 7, 3) := by decide +kernel
theorem dX10_tent_55 : decode cX10_tent 55 = .ok (.iload_n 1, 1) := by decide +kernel
theorem dX10_tent_56 : decode cX10_tent 56 = .ok (.goto 18, 3) := by decide +kernel
theorem dX10_tent_59 : decode cX10_tent 59 = .ok (.iload_n 3, 1) := by decide +kernel
theorem dX10_tent_60 : decode cX10_tent 60 = .ok (.iconst 1, 1) := by decide +kernel
theorem dX10_tent_61 : decode cX10_tent 61 = .ok (.if_icmp .eq 8, 3) := by decide +kernel
theorem dX10_tent_64 : decode cX10_tent 64 = .ok (.iload_n 3, 1) := by decide +kernel
theorem dX10_tent_65 : decode cX10_tent 65 = .ok (.iconst 2, 1) := by decide +kernel
theorem dX10_tent_66 : decode cX10_tent 66 = .ok (.if_icmp .ne 7, 3) := by decide +kernel
theorem dX10_tent_69 : decode cX10_tent 69 = .ok (.iconst (-1), 1) := by decide +kernel
theorem dX10_tent_70 : decode cX10_tent 70 = .ok (.goto 4, 3) := by decide +kernel
theorem dX10_tent_73 : decode cX10_tent 73 = .ok (.iconst 0, 1) := by decide +kernel
theorem dX10_tent_74 : decode cX10_tent 74 = .ok (.invokevirtual 137, 3) := by decide +kernel
theorem dX10_tent_77 : decode cX10_tent 77 = .ok (.iinc 3 1, 3) := by decide +kernel
theorem dX10_tent_80 : decode cX10_tent 80 = .ok (.goto (-38), 3) := by decide +kernel
theorem dX10_tent_83 : decode cX10_tent 83 = .ok (.aload_n 0, 1) := by decide +kernel
theorem dX10_tent_84 : decode cX10_tent 84 = .ok (.getfield 9, 3) := by decide +kernel
theorem dX10_tent_87 : decode cX10_tent 87 = .ok (.iconst 2, 1) := by decide +kernel
theorem dX10_tent_88 : decode cX10_tent 88 = .ok (.dup2, 1) := by decide +kernel
theorem dX10_tent_89 : decode cX10_tent 89 = .ok (.iaload, 1) := by decide +kernel
theorem dX10_tent_90 : decode cX10_tent 90 = .ok (.iconst 1, 1) := by decide +kernel
theorem dX10_tent_91 : decode cX10_tent 91 = .ok (.iadd, 1) := by decide +kernel
theorem dX10_tent_92 : decode cX10_tent 92 = .ok (.iastore, 1) := by decide +kernel
theorem dX10_tent_93 : decode cX10_tent 93 = .ok (.aload_n 0, 1) := by decide +kernel
theorem dX10_tent_94 : decode cX10_tent 94 = .ok (.iload_n 2, 1) := by decide +kernel
theorem dX10_tent_95 : decode cX10_tent 95 = .ok (.invokevirtual 116, 3) := by decide +kernel
theorem dX10_tent_98 : decode cX10_tent 98 = .ok (.ireturn, 1) := by decide +kernel
theorem dX10_tentOf_0 : decode cX10_tentOf 0 = .ok (.aload_n 0, 1) := by decide +kernel
theorem dX10_tentOf_1 : decode cX10_tentOf 1 = .ok (.aload_n 0, 1) := by decide +kernel
theorem dX10_tentOf_2 : decode cX10_tentOf 2 = .ok (.iload_n 1, 1) := by decide +kernel
theorem dX10_tentOf_3 : decode cX10_tentOf 3 = .ok (.invokevirtual 131, 3) := by decide +kernel
theorem dX10_tentOf_6 : decode cX10_tentOf 6 = .ok (.ifCond .ne 7, 3) := by decide +kernel
theorem dX10_tentOf_9 : decode cX10_tentOf 9 = .ok (.iconst 1, 1) := by decide +kernel
theorem dX10_tentOf_10 : decode cX10_tentOf 10 = .ok (.goto 17, 3) := by decide +kernel
theorem dX10_tentOf_13 : decode cX10_tentOf 13 = .ok (.iload_n 2, 1) := by decide +kernel
theorem dX10_tentOf_14 : decode cX10_tentOf 14 = .ok (.iconst 0, 1) := by decide +kernel
theorem dX10_tentOf_15 : decode cX10_tentOf 15 = .ok (.iconst 4, 1) := by decide +kernel
theorem dX10_tentOf_16 : decode cX10_tentOf 16 = .ok (.invokestatic 85, 3) := by decide +kernel
theorem dX10_tentOf_19 : decode cX10_tentOf 19 = .ok (.ifCond .ne 7, 3) := by decide +kernel
theorem dX10_tentOf_22 : decode cX10_tentOf 22 = .ok (.iconst 2, 1) := by decide +kernel
theorem dX10_tentOf_23 : decode cX10_tentOf 23 = .ok (.goto 4, 3) := by decide +kernel
theorem dX10_tentOf_26 : decode cX10_tentOf 26 = .ok (.iconst 0, 1) := by decide +kernel
theorem dX10_tentOf_27 : decode cX10_tentOf 27 = .ok (.putfield 63, 3) := by decide +kernel
theorem dX10_tentOf_30 : decode cX10_tentOf 30 = .ok (.aload_n 0, 1) := by decide +kernel
theorem dX10_tentOf_31 : decode cX10_tentOf 31 = .ok (.getfield 63, 3) := by decide +kernel
theorem dX10_tentOf_34 : decode cX10_tentOf 34 = .ok (.ifCond .le 5, 3) := by decide +kernel
theorem dX10_tentOf_37 : decode cX10_tentOf 37 = .ok (.iconst 0, 1) := by decide +kernel
theorem dX10_tentOf_38 : decode cX10_tentOf 38 = .ok (.ireturn, 1) := by decide +kernel
theorem dX10_tentOf_39 : decode cX10_tentOf 39 = .ok (.iload_n 2, 1) := by decide +kernel
theorem dX10_tentOf_40 : decode cX10_tentOf 40 = .ok (.iconst 3, 1) := by decide +kernel
theorem dX10_tentOf_41 : decode cX10_tentOf 41 = .ok (.if_icmp .ne 12, 3) := by decide +kernel
theorem dX10_tentOf_44 : decode cX10_tentOf 44 = .ok (.aload_n 0, 1) := by decide +kernel
theorem dX10_tentOf_45 : decode cX10_tentOf 45 = .ok (.iload_n 1, 1) := by decide +kernel
theorem dX10_tentOf_46 : decode cX10_tentOf 46 = .ok (.iconst 4, 1) := by decide +kernel
theorem dX10_tentOf_47 : decode cX10_tentOf 47 = .ok (.invokevirtual 134, 3) := by decide +kernel
theorem dX10_tentOf_50 : decode cX10_tentOf 50 = .ok (.goto 23, 3) := by decide +kernel
theorem dX10_tentOf_53 : decode cX10_tentOf 53 = .ok (.iload_n 2, 1) := by decide +kernel
theorem dX10_tentOf_54 : decode cX10_tentOf 54 = .ok (.iconst 4, 1) := by decide +kernel
theorem dX10_tentOf_55 : decode cX10_tentOf 55 = .ok (.if_icmp .ne 12, 3) := by decide +kernel
theorem dX10_tentOf_58 : decode cX10_tentOf 58 = .ok (.aload_n 0, 1) := by decide +kernel
theorem dX10_tentOf_59 : decode cX10_tentOf 59 = .ok (.iload_n 1, 1) := by decide +kernel
theorem dX10_tentOf_60 : decode cX10_tentOf 60 = .ok (.iconst 3, 1) := by decide +kernel
theorem dX10_tentOf_61 : decode cX10_tentOf 61 = .ok (.invokevirtual 134, 3) := by decide +kernel
theorem dX10_tentOf_64 : decode cX10_tentOf 64 = .ok (.goto 9, 3) := by decide +kernel
theorem dX10_tentOf_67 : decode cX10_tentOf 67 = .ok (.aload_n 0, 1) := by decide +kernel
theorem dX10_tentOf_68 : decode cX10_tentOf 68 = .ok (.iload_n 1, 1) := by decide +kernel
theorem dX10_tentOf_69 : decode cX10_tentOf 69 = .ok (.iload_n 2, 1) := by decide +kernel
theorem dX10_tentOf_70 : decode cX10_tentOf 70 = .ok (.invokevirtual 134, 3) := by decide +kernel
theorem dX10_tentOf_73 : decode cX10_tentOf 73 = .ok (.ireturn, 1) := by decide +kernel
theorem dX10_waiting_0 : decode cX10_waiting 0 = .ok (.aload_n 0, 1) := by decide +kernel
theorem dX10_waiting_1 : decode cX10_waiting 1 = .ok (.aload_n 0, 1) := by decide +kernel
theorem dX10_waiting_2 : decode cX10_waiting 2 = .ok (.iload_n 1, 1) := by decide +kernel
theorem dX10_waiting_3 : decode cX10_waiting 3 = .ok (.invokevirtual 131, 3) := by decide +kernel
theorem dX10_waiting_6 : decode cX10_waiting 6 = .ok (.ifCond .ne 7, 3) := by decide +kernel
theorem dX10_waiting_9 : decode cX10_waiting 9 = .ok (.iconst 1, 1) := by decide +kernel
theorem dX10_waiting_10 : decode cX10_waiting 10 = .ok (.goto 24, 3) := by decide +kernel
theorem dX10_waiting_13 : decode cX10_waiting 13 = .ok (.iload_n 2, 1) := by decide +kernel
theorem dX10_waiting_14 : decode cX10_waiting 14 = .ok (.iconst 0, 1) := by decide +kernel
theorem dX10_waiting_15 : decode cX10_waiting 15 = .ok (.aload_n 0, 1) := by decide +kernel
theorem dX10_waiting_16 : decode cX10_waiting 16 = .ok (.iload_n 1, 1) := by decide +kernel
theorem dX10_waiting_17 : decode cX10_waiting 17 = .ok (.iconst 4, 1) := by decide +kernel
theorem dX10_waiting_18 : decode cX10_waiting 18 = .ok (.invokevirtual 134, 3) := by decide +kernel
theorem dX10_waiting_21 : decode cX10_waiting 21 = .ok (.iconst 1, 1) := by decide +kernel
theorem dX10_waiting_22 : decode cX10_waiting 22 = .ok (.isub, 1) := by decide +kernel
theorem dX10_waiting_23 : decode cX10_waiting 23 = .ok (.invokestatic 85, 3) := by decide +kernel
theorem dX10_waiting_26 : decode cX10_waiting 26 = .ok (.ifCond .ne 7, 3) := by decide +kernel
theorem dX10_waiting_29 : decode cX10_waiting 29 = .ok (.iconst 2, 1) := by decide +kernel
theorem dX10_waiting_30 : decode cX10_waiting 30 = .ok (.goto 4, 3) := by decide +kernel
theorem dX10_waiting_33 : decode cX10_waiting 33 = .ok (.iconst 0, 1) := by decide +kernel
theorem dX10_waiting_34 : decode cX10_waiting 34 = .ok (.putfield 63, 3) := by decide +kernel
theorem dX10_waiting_37 : decode cX10_waiting 37 = .ok (.aload_n 0, 1) := by decide +kernel
theorem dX10_waiting_38 : decode cX10_waiting 38 = .ok (.getfield 63, 3) := by decide +kernel
theorem dX10_waiting_41 : decode cX10_waiting 41 = .ok (.ifCond .le 7, 3) := by decide +kernel
theorem dX10_waiting_44 : decode cX10_waiting 44 = .ok (.iconst 0, 1) := by decide +kernel
theorem dX10_waiting_45 : decode cX10_waiting 45 = .ok (.goto 11, 3) := by decide +kernel
theorem dX10_waiting_48 : decode cX10_waiting 48 = .ok (.aload_n 0, 1) := by decide +kernel
theorem dX10_waiting_49 : decode cX10_waiting 49 = .ok (.iload_n 1, 1) := by decide +kernel
theorem dX10_waiting_50 : decode cX10_waiting 50 = .ok (.iconst 5, 1) := by decide +kernel
theorem dX10_waiting_51 : decode cX10_waiting 51 = .ok (.iload_n 2, 1) := by decide +kernel
theorem dX10_waiting_52 : decode cX10_waiting 52 = .ok (.iadd, 1) := by decide +kernel
theorem dX10_waiting_53 : decode cX10_waiting 53 = .ok (.invokevirtual 134, 3) := by decide +kernel
theorem dX10_waiting_56 : decode cX10_waiting 56 = .ok (.ireturn, 1) := by decide +kernel
theorem dX10_doJoin_0 : decode cX10_doJoin 0 = .ok (.aload_n 0, 1) := by decide +kernel
theorem dX10_doJoin_1 : decode cX10_doJoin 1 = .ok (.iload_n 1, 1) := by decide +kernel
theorem dX10_doJoin_2 : decode cX10_doJoin 2 = .ok (.invokevirtual 131, 3) := by decide +kernel
theorem dX10_doJoin_5 : decode cX10_doJoin 5 = .ok (.ifCond .ne 9, 3) := by decide +kernel
theorem dX10_doJoin_8 : decode cX10_doJoin 8 = .ok (.aload_n 0, 1) := by decide +kernel
theorem dX10_doJoin_9 : decode cX10_doJoin 9 = .ok (.iconst 1, 1) := by decide +kernel
theorem dX10_doJoin_10 : decode cX10_doJoin 10 = .ok (.invokevirtual 104, 3) := by decide +kernel
theorem dX10_doJoin_13 : decode cX10_doJoin 13 = .ok (.ireturn, 1) := by decide +kernel
theorem dX10_doJoin_14 : decode cX10_doJoin 14 = .ok (.aload_n 0, 1) := by decide +kernel
theorem dX10_doJoin_15 : decode cX10_doJoin 15 = .ok (.iload_n 1, 1) := by decide +kernel
theorem dX10_doJoin_16 : decode cX10_doJoin 16 = .ok (.iconst 4, 1) := by decide +kernel
theorem dX10_doJoin_17 : decode cX10_doJoin 17 = .ok (.invokevirtual 134, 3) := by decide +kernel
theorem dX10_doJoin_20 : decode cX10_doJoin 20 = .ok (.istore_n 2, 1) := by decide +kernel
theorem dX10_doJoin_21 : decode cX10_doJoin 21 = .ok (.iload_n 2, 1) := by decide +kernel
theorem dX10_doJoin_22 : decode cX10_doJoin 22 = .ok (.bipush 6, 2) := by decide +kernel
theorem dX10_doJoin_24 : decode cX10_doJoin 24 = .ok (.if_icmp .ne 12, 3) := by decide +kernel
theorem dX10_doJoin_27 : decode cX10_doJoin 27 = .ok (.aload_n 0, 1) := by decide +kernel
theorem dX10_doJoin_28 : decode cX10_doJoin 28 = .ok (.iconst 2, 1) := by decide +kernel
theorem dX10_doJoin_29 : decode cX10_doJoin 29 = .ok (.iconst 1, 1) := by decide +kernel
theorem dX10_doJoin_30 : decode cX10_doJoin 30 = .ok (.bipush 6, 2) := by decide +kernel
theorem dX10_doJoin_32 : decode cX10_doJoin 32 = .ok (.invokevirtual 108, 3) := by decide +kernel
theorem dX10_doJoin_35 : decode cX10_doJoin 35 = .ok (.ireturn, 1) := by decide +kernel
theorem dX10_doJoin_36 : decode cX10_doJoin 36 = .ok (.aload_n 0, 1) := by decide +kernel
theorem dX10_doJoin_37 : decode cX10_doJoin 37 = .ok (.iload_n 1, 1) := by decide +kernel
theorem dX10_doJoin_38 : decode cX10_doJoin 38 = .ok (.iconst 1, 1) := by decide +kernel
theorem dX10_doJoin_39 : decode cX10_doJoin 39 = .ok (.invokevirtual 134, 3) := by decide +kernel
theorem dX10_doJoin_42 : decode cX10_doJoin 42 = .ok (.ifCond .ge 12, 3) := by decide +kernel
theorem dX10_doJoin_45 : decode cX10_doJoin 45 = .ok (.aload_n 0, 1) := by decide +kernel
theorem dX10_doJoin_46 : decode cX10_doJoin 46 = .ok (.iconst 2, 1) := by decide +kernel
theorem dX10_doJoin_47 : decode cX10_doJoin 47 = .ok (.bipush 6, 2) := by decide +kernel
theorem dX10_doJoin_49 : decode cX10_doJoin 49 = .ok (.iload_n 1, 1) := by decide +kernel
theorem dX10_doJoin_50 : decode cX10_doJoin 50 = .ok (.invokevirtual 108, 3) := by decide +kernel
theorem dX10_doJoin_53 : decode cX10_doJoin 53 = .ok (.ireturn, 1) := by decide +kernel
theorem dX10_doJoin_54 : decode cX10_doJoin 54 = .ok (.aload_n 0, 1) := by decide +kernel
theorem dX10_doJoin_55 : decode cX10_doJoin 55 = .ok (.getfield 9, 3) := by decide +kernel
theorem dX10_doJoin_58 : decode cX10_doJoin 58 = .ok (.iconst 4, 1) := by decide +kernel
theorem dX10_doJoin_59 : decode cX10_doJoin 59 = .ok (.iaload, 1) := by decide +kernel
theorem dX10_doJoin_60 : decode cX10_doJoin 60 = .ok (.ifCond .ne 17, 3) := by decide +kernel
theorem dX10_doJoin_63 : decode cX10_doJoin 63 = .ok (.aload_n 0, 1) := by decide +kernel
theorem dX10_doJoin_64 : decode cX10_doJoin 64 = .ok (.iconst 2, 1) := by decide +kernel
theorem dX10_doJoin_65 : decode cX10_doJoin 65 = .ok (.bipush 10, 2) := by decide +kernel
theorem dX10_doJoin_67 : decode cX10_doJoin 67 = .ok (.aload_n 0, 1) := by decide +kernel
theorem dX10_doJoin_68 : decode cX10_doJoin 68 = .ok (.getfield 9, 3) := by decide +kernel
theorem dX10_doJoin_71 : decode cX10_doJoin 71 = .ok (.iconst 5, 1) := by decide +kernel
theorem dX10_doJoin_72 : decode cX10_doJoin 72 = .ok (.iaload, 1) := by decide +kernel
theorem dX10_doJoin_73 : decode cX10_doJoin 73 = .ok (.invokevirtual 108, 3) := by decide +kernel
theorem dX10_doJoin_76 : decode cX10_doJoin 76 = .ok (.ireturn, 1) := by decide +kernel
theorem dX10_doJoin_77 : decode cX10_doJoin 77 = .ok (.aload_n 0, 1) := by decide +kernel
theorem dX10_doJoin_78 : decode cX10_doJoin 78 = .ok (.getfield 9, 3) := by decide +kernel
theorem dX10_doJoin_81 : decode cX10_doJoin 81 = .ok (.iconst 4, 1) := by decide +kernel
theorem dX10_doJoin_82 : decode cX10_doJoin 82 = .ok (.dup2, 1) := by decide +kernel
theorem dX10_doJoin_83 : decode cX10_doJoin 83 = .ok (.iaload, 1) := by decide +kernel
theorem dX10_doJoin_84 : decode cX10_doJoin 84 = .ok (.iconst 1, 1) := by decide +kernel
theorem dX10_doJoin_85 : decode cX10_doJoin 85 = .ok (.isub, 1) := by decide +kernel
theorem dX10_doJoin_86 : decode cX10_doJoin 86 = .ok (.iastore, 1) := by decide +kernel
theorem dX10_doJoin_87 : decode cX10_doJoin 87 = .ok (.aload_n 0, 1) := by decide +kernel
theorem dX10_doJoin_88 : decode cX10_doJoin 88 = .ok (.iload_n 1, 1) := by decide +kernel
theorem dX10_doJoin_89 : decode cX10_doJoin 89 = .ok (.iconst 5, 1) := by decide +kernel
theorem dX10_doJoin_90 : decode cX10_doJoin 90 = .ok (.iload_n 2, 1) := by decide +kernel
theorem dX10_doJoin_91 : decode cX10_doJoin 91 = .ok (.iadd, 1) := by decide +kernel
theorem dX10_doJoin_92 : decode cX10_doJoin 92 = .ok (.aload_n 0, 1) := by decide +kernel
theorem dX10_doJoin_93 : decode cX10_doJoin 93 = .ok (.getfield 9, 3) := by decide +kernel
theorem dX10_doJoin_96 : decode cX10_doJoin 96 = .ok (.bipush 8, 2) := by decide +kernel
theorem dX10_doJoin_98 : decode cX10_doJoin 98 = .ok (.iaload, 1) := by decide +kernel
theorem dX10_doJoin_99 : decode cX10_doJoin 99 = .ok (.invokevirtual 137, 3) := by decide +kernel
theorem dX10_doJoin_102 : decode cX10_doJoin 102 = .ok (.aload_n 0, 1) := by decide +kernel
theorem dX10_doJoin_103 : decode cX10_doJoin 103 = .ok (.iload_n 1, 1) := by decide +kernel
theorem dX10_doJoin_104 : decode cX10_doJoin 104 = .ok (.iconst 4, 1) := by decide +kernel
theorem dX10_doJoin_105 : decode cX10_doJoin 105 = .ok (.iload_n 2, 1) := by decide +kernel
theorem dX10_doJoin_106 : decode cX10_doJoin 106 = .ok (.iconst 1, 1) := by decide +kernel
theorem dX10_doJoin_107 : decode cX10_doJoin 107 = .ok (.iadd, 1) := by decide +kernel
theorem dX10_doJoin_108 : decode cX10_doJoin 108 = .ok (.invokevirtual 137, 3) := by decide +kernel
theorem dX10_doJoin_111 : decode cX10_doJoin 111 = .ok (.aload_n 0, 1) := by decide +kernel
theorem dX10_doJoin_112 : decode cX10_doJoin 112 = .ok (.getfield 9, 3) := by decide +kernel
theorem dX10_doJoin_115 : decode cX10_doJoin 115 = .ok (.bipush 8, 2) := by decide +kernel
theorem dX10_doJoin_117 : decode cX10_doJoin 117 = .ok (.dup2, 1) := by decide +kernel
theorem dX10_doJoin_118 : decode cX10_doJoin 118 = .ok (.iaload, 1) := by decide +kernel
theorem dX10_doJoin_119 : decode cX10_doJoin 119 = .ok (.iconst 1, 1) := by decide +kernel
theorem dX10_doJoin_120 : decode cX10_doJoin 120 = .ok (.iadd, 1) := by decide +kernel
theorem dX10_doJoin_121 : decode cX10_doJoin 121 = .ok (.iastore, 1) := by decide +kernel
theorem dX10_doJoin_122 : decode cX10_doJoin 122 = .ok (.aload_n 0, 1) := by decide +kernel
theorem dX10_doJoin_123 : decode cX10_doJoin 123 = .ok (.getfield 9, 3) := by decide +kernel
theorem dX10_doJoin_126 : decode cX10_doJoin 126 = .ok (.bipush 8, 2) := by decide +kernel
theorem dX10_doJoin_128 : decode cX10_doJoin 128 = .ok (.iaload, 1) := by decide +kernel
theorem dX10_doJoin_129 : decode cX10_doJoin 129 = .ok (.iconst 1, 1) := by decide +kernel
theorem dX10_doJoin_130 : decode cX10_doJoin 130 = .ok (.isub, 1) := by decide +kernel
theorem dX10_doJoin_131 : decode cX10_doJoin 131 = .ok (.ireturn, 1) := by decide +kernel
theorem dX10_join_0 : decode cX10_join 0 = .ok (.aload_n 0, 1) := by decide +kernel
theorem dX10_join_1 : decode cX10_join 1 = .ok (.invokevirtual 101, 3) := by decide +kernel
theorem dX10_join_4 : decode cX10_join 4 = .ok (.aload_n 0, 1) := by decide +kernel
theorem dX10_join_5 : decode cX10_join 5 = .ok (.aload_n 0, 1) := by decide +kernel
theorem dX10_join_6 : decode cX10_join 6 = .ok (.iload_n 1, 1) := by decide +kernel
theorem dX10_join_7 : decode cX10_join 7 = .ok (.invokevirtual 146, 3) := by decide +kernel
theorem dX10_join_10 : decode cX10_join 10 = .ok (.invokevirtual 116, 3) := by decide +kernel
theorem dX10_join_13 : decode cX10_join 13 = .ok (.ireturn, 1) := by decide +kernel
theorem dX10_gasOf_0 : decode cX10_gasOf 0 = .ok (.aload_n 0, 1) := by decide +kernel
theorem dX10_gasOf_1 : decode cX10_gasOf 1 = .ok (.getfield 9, 3) := by decide +kernel
theorem dX10_gasOf_4 : decode cX10_gasOf 4 = .ok (.bipush 121, 2) := by decide +kernel
theorem dX10_gasOf_6 : decode cX10_gasOf 6 = .ok (.iconst 2, 1) := by decide +kernel
theorem dX10_gasOf_7 : decode cX10_gasOf 7 = .ok (.iload_n 1, 1) := by decide +kernel
theorem dX10_gasOf_8 : decode cX10_gasOf 8 = .ok (.imul, 1) := by decide +kernel
theorem dX10_gasOf_9 : decode cX10_gasOf 9 = .ok (.iadd, 1) := by decide +kernel
theorem dX10_gasOf_10 : decode cX10_gasOf 10 = .ok (.iaload, 1) := by decide +kernel
theorem dX10_gasOf_11 : decode cX10_gasOf 11 = .ok (.ireturn, 1) := by decide +kernel
theorem dX10_tentOfHeater_0 : decode cX10_tentOfHeater 0 = .ok (.aload_n 0, 1) := by decide +kernel
theorem dX10_tentOfHeater_1 : decode cX10_tentOfHeater 1 = .ok (.getfield 9, 3) := by decide +kernel
theorem dX10_tentOfHeater_4 : decode cX10_tentOfHeater 4 = .ok (.bipush 121, 2) := by decide +kernel
theorem dX10_tentOfHeater_6 : decode cX10_tentOfHeater 6 = .ok (.iconst 2, 1) := by decide +kernel
theorem dX10_tentOfHeater_7 : decode cX10_tentOfHeater 7 = .ok (.iload_n 1, 1) := by decide +kernel
theorem dX10_tentOfHeater_8 : decode cX10_tentOfHeater 8 = .ok (.imul, 1) := by decide +kernel
theorem dX10_tentOfHeater_9 : decode cX10_tentOfHeater 9 = .ok (.iadd, 1) := by decide +kernel
theorem dX10_tentOfHeater_10 : decode cX10_tentOfHeater 10 = .ok (.iconst 1, 1) := by decide +kernel
theorem dX10_tentOfHeater_11 : decode cX10_tentOfHeater 11 = .ok (.iadd, 1) := by decide +kernel
theorem dX10_tentOfHeater_12 : decode cX10_tentOfHeater 12 = .ok (.iaload, 1) := by decide +kernel
theorem dX10_tentOfHeater_13 : decode cX10_tentOfHeater 13 = .ok (.ireturn, 1) := by decide +kernel
theorem dX10_heater_0 : decode cX10_heater 0 = .ok (.aload_n 0, 1) := by decide +kernel
theorem dX10_heater_1 : decode cX10_heater 1 = .ok (.getfield 9, 3) := by decide +kernel
theorem dX10_heater_4 : decode cX10_heater 4 = .ok (.iconst 3, 1) := by decide +kernel
theorem dX10_heater_5 : decode cX10_heater 5 = .ok (.iaload, 1) := by decide +kernel
theorem dX10_heater_6 : decode cX10_heater 6 = .ok (.istore_n 1, 1) := by decide +kernel
theorem dX10_heater_7 : decode cX10_heater 7 = .ok (.aload_n 0, 1) := by decide +kernel
theorem dX10_heater_8 : decode cX10_heater 8 = .ok (.invokevirtual 101, 3) := by decide +kernel
theorem dX10_heater_11 : decode cX10_heater 11 = .ok (.iload_n 1, 1) := by decide +kernel
theorem dX10_heater_12 : decode cX10_heater 12 = .ok (.iconst 4, 1) := by decide +kernel
theorem dX10_heater_13 : decode cX10_heater 13 = .ok (.if_icmp .ne 11, 3) := by decide +kernel
theorem dX10_heater_16 : decode cX10_heater 16 = .ok (.aload_n 0, 1) := by decide +kernel
theorem dX10_heater_17 : decode cX10_heater 17 = .ok (.iconst 1, 1) := by decide +kernel
theorem dX10_heater_18 : decode cX10_heater 18 = .ok (.iconst 1, 1) := by decide +kernel
theorem dX10_heater_19 : decode cX10_heater 19 = .ok (.iconst 4, 1) := by decide +kernel
theorem dX10_heater_20 : decode cX10_heater 20 = .ok (.invokevirtual 108, 3) := by decide +kernel
theorem dX10_heater_23 : decode cX10_heater 23 = .ok (.ireturn, 1) := by decide +kernel
theorem dX10_heater_24 : decode cX10_heater 24 = .ok (.aload_n 0, 1) := by decide +kernel
theorem dX10_heater_25 : decode cX10_heater 25 = .ok (.getfield 9, 3) := by decide +kernel
theorem dX10_heater_28 : decode cX10_heater 28 = .ok (.bipush 121, 2) := by decide +kernel
theorem dX10_heater_30 : decode cX10_heater 30 = .ok (.iconst 2, 1) := by decide +kernel
theorem dX10_heater_31 : decode cX10_heater 31 = .ok (.iload_n 1, 1) := by decide +kernel
theorem dX10_heater_32 : decode cX10_heater 32 = .ok (.imul, 1) := by decide +kernel
theorem dX10_heater_33 : decode cX10_heater 33 = .ok (.iadd, 1) := by decide +kernel
theorem dX10_heater_34 : decode cX10_heater 34 = .ok (.bipush 20, 2) := by decide +kernel
theorem dX10_heater_36 : decode cX10_heater 36 = .ok (.iastore, 1) := by decide +kernel
theorem dX10_heater_37 : decode cX10_heater 37 = .ok (.aload_n 0, 1) := by decide +kernel
theorem dX10_heater_38 : decode cX10_heater 38 = .ok (.getfield 9, 3) := by decide +kernel
theorem dX10_heater_41 : decode cX10_heater 41 = .ok (.bipush 121, 2) := by decide +kernel
theorem dX10_heater_43 : decode cX10_heater 43 = .ok (.iconst 2, 1) := by decide +kernel
theorem dX10_heater_44 : decode cX10_heater 44 = .ok (.iload_n 1, 1) := by decide +kernel
theorem dX10_heater_45 : decode cX10_heater 45 = .ok (.imul, 1) := by decide +kernel
theorem dX10_heater_46 : decode cX10_heater 46 = .ok (.iadd, 1) := by decide +kernel
theorem dX10_heater_47 : decode cX10_heater 47 = .ok (.iconst 1, 1) := by decide +kernel
theorem dX10_heater_48 : decode cX10_heater 48 = .ok (.iadd, 1) := by decide +kernel
theorem dX10_heater_49 : decode cX10_heater 49 = .ok (.iconst (-1), 1) := by decide +kernel
theorem dX10_heater_50 : decode cX10_heater 50 = .ok (.iastore, 1) := by decide +kernel
theorem dX10_heater_51 : decode cX10_heater 51 = .ok (.aload_n 0, 1) := by decide +kernel
theorem dX10_heater_52 : decode cX10_heater 52 = .ok (.getfield 9, 3) := by decide +kernel
theorem dX10_heater_55 : decode cX10_heater 55 = .ok (.iconst 3, 1) := by decide +kernel
theorem dX10_heater_56 : decode cX10_heater 56 = .ok (.dup2, 1) := by decide +kernel
theorem dX10_heater_57 : decode cX10_heater 57 = .ok (.iaload, 1) := by decide +kernel
theorem dX10_heater_58 : decode cX10_heater 58 = .ok (.iconst 1, 1) := by decide +kernel
theorem dX10_heater_59 : decode cX10_heater 59 = .ok (.iadd, 1) := by decide +kernel
theorem dX10_heater_60 : decode cX10_heater 60 = .ok (.iastore, 1) := by decide +kernel
theorem dX10_heater_61 : decode cX10_heater 61 = .ok (.aload_n 0, 1) := by decide +kernel
theorem dX10_heater_62 : decode cX10_heater 62 = .ok (.iload_n 1, 1) := by decide +kernel
theorem dX10_heater_63 : decode cX10_heater 63 = .ok (.invokevirtual 116, 3) := by decide +kernel
theorem dX10_heater_66 : decode cX10_heater 66 = .ok (.ireturn, 1) := by decide +kernel
theorem dX10_heaterOf_0 : decode cX10_heaterOf 0 = .ok (.aload_n 0, 1) := by decide +kernel
theorem dX10_heaterOf_1 : decode cX10_heaterOf 1 = .ok (.aload_n 0, 1) := by decide +kernel
theorem dX10_heaterOf_2 : decode cX10_heaterOf 2 = .ok (.iload_n 1, 1) := by decide +kernel
theorem dX10_heaterOf_3 : decode cX10_heaterOf 3 = .ok (.invokevirtual 149, 3) := by decide +kernel
theorem dX10_heaterOf_6 : decode cX10_heaterOf 6 = .ok (.ifCond .eq 7, 3) := by decide +kernel
theorem dX10_heaterOf_9 : decode cX10_heaterOf 9 = .ok (.iconst 0, 1) := by decide +kernel
theorem dX10_heaterOf_10 : decode cX10_heaterOf 10 = .ok (.goto 4, 3) := by decide +kernel
theorem dX10_heaterOf_13 : decode cX10_heaterOf 13 = .ok (.iconst 1, 1) := by decide +kernel
theorem dX10_heaterOf_14 : decode cX10_heaterOf 14 = .ok (.putfield 63, 3) := by decide +kernel
theorem dX10_heaterOf_17 : decode cX10_heaterOf 17 = .ok (.aload_n 0, 1) := by decide +kernel
theorem dX10_heaterOf_18 : decode cX10_heaterOf 18 = .ok (.getfield 63, 3) := by decide +kernel
theorem dX10_heaterOf_21 : decode cX10_heaterOf 21 = .ok (.ifCond .le 7, 3) := by decide +kernel
theorem dX10_heaterOf_24 : decode cX10_heaterOf 24 = .ok (.iconst 0, 1) := by decide +kernel
theorem dX10_heaterOf_25 : decode cX10_heaterOf 25 = .ok (.goto 20, 3) := by decide +kernel
theorem dX10_heaterOf_28 : decode cX10_heaterOf 28 = .ok (.iload_n 2, 1) := by decide +kernel
theorem dX10_heaterOf_29 : decode cX10_heaterOf 29 = .ok (.ifCond .eq 11, 3) := by decide +kernel
theorem dX10_heaterOf_32 : decode cX10_heaterOf 32 = .ok (.aload_n 0, 1) := by decide +kernel
theorem dX10_heaterOf_33 : decode cX10_heaterOf 33 = .ok (.iload_n 1, 1) := by decide +kernel
theorem dX10_heaterOf_34 : decode cX10_heaterOf 34 = .ok (.invokevirtual 152, 3) := by decide +kernel
theorem dX10_heaterOf_37 : decode cX10_heaterOf 37 = .ok (.goto 8, 3) := by decide +kernel
theorem dX10_heaterOf_40 : decode cX10_heaterOf 40 = .ok (.aload_n 0, 1) := by decide +kernel
theorem dX10_heaterOf_41 : decode cX10_heaterOf 41 = .ok (.iload_n 1, 1) := by decide +kernel
theorem dX10_heaterOf_42 : decode cX10_heaterOf 42 = .ok (.invokevirtual 155, 3) := by decide +kernel
theorem dX10_heaterOf_45 : decode cX10_heaterOf 45 = .ok (.ireturn, 1) := by decide +kernel
theorem dX10_doHeat_0 : decode cX10_doHeat 0 = .ok (.aload_n 0, 1) := by decide +kernel
theorem dX10_doHeat_1 : decode cX10_doHeat 1 = .ok (.iload_n 1, 1) := by decide +kernel
theorem dX10_doHeat_2 : decode cX10_doHeat 2 = .ok (.invokevirtual 149, 3) := by decide +kernel
theorem dX10_doHeat_5 : decode cX10_doHeat 5 = .ok (.ifCond .eq 11, 3) := by decide +kernel
theorem dX10_doHeat_8 : decode cX10_doHeat 8 = .ok (.aload_n 0, 1) := by decide +kernel
theorem dX10_doHeat_9 : decode cX10_doHeat 9 = .ok (.iload_n 2, 1) := by decide +kernel
theorem dX10_doHeat_10 : decode cX10_doHeat 10 = .ok (.invokevirtual 131, 3) := by decide +kernel
theorem dX10_doHeat_13 : decode cX10_doHeat 13 = .ok (.ifCond .ne 9, 3) := by decide +kernel
theorem dX10_doHeat_16 : decode cX10_doHeat 16 = .ok (.aload_n 0, 1) := by decide +kernel
theorem dX10_doHeat_17 : decode cX10_doHeat 17 = .ok (.iconst 1, 1) := by decide +kernel
theorem dX10_doHeat_18 : decode cX10_doHeat 18 = .ok (.invokevirtual 104, 3) := by decide +kernel
theorem dX10_doHeat_21 : decode cX10_doHeat 21 = .ok (.ireturn, 1) := by decide +kernel
theorem dX10_doHeat_22 : decode cX10_doHeat 22 = .ok (.aload_n 0, 1) := by decide +kernel
theorem dX10_doHeat_23 : decode cX10_doHeat 23 = .ok (.iload_n 1, 1) := by decide +kernel
theorem dX10_doHeat_24 : decode cX10_doHeat 24 = .ok (.invokevirtual 155, 3) := by decide +kernel
theorem dX10_doHeat_27 : decode cX10_doHeat 27 = .ok (.ifCond .lt 16, 3) := by decide +kernel
theorem dX10_doHeat_30 : decode cX10_doHeat 30 = .ok (.aload_n 0, 1) := by decide +kernel
theorem dX10_doHeat_31 : decode cX10_doHeat 31 = .ok (.iconst 2, 1) := by decide +kernel
theorem dX10_doHeat_32 : decode cX10_doHeat 32 = .ok (.bipush 7, 2) := by decide +kernel
theorem dX10_doHeat_34 : decode cX10_doHeat 34 = .ok (.aload_n 0, 1) := by decide +kernel
theorem dX10_doHeat_35 : decode cX10_doHeat 35 = .ok (.iload_n 1, 1) := by decide +kernel
theorem dX10_doHeat_36 : decode cX10_doHeat 36 = .ok (.invokevirtual 155, 3) := by decide +kernel
theorem dX10_doHeat_39 : decode cX10_doHeat 39 = .ok (.invokevirtual 108, 3) := by decide +kernel
theorem dX10_doHeat_42 : decode cX10_doHeat 42 = .ok (.ireturn, 1) := by decide +kernel
theorem dX10_doHeat_43 : decode cX10_doHeat 43 = .ok (.aload_n 0, 1) := by decide +kernel
theorem dX10_doHeat_44 : decode cX10_doHeat 44 = .ok (.iload_n 2, 1) := by decide +kernel
theorem dX10_doHeat_45 : decode cX10_doHeat 45 = .ok (.iconst 2, 1) := by decide +kernel
theorem dX10_doHeat_46 : decode cX10_doHeat 46 = .ok (.invokevirtual 134, 3) := by decide +kernel
theorem dX10_doHeat_49 : decode cX10_doHeat 49 = .ok (.ifCond .lt 17, 3) := by decide +kernel
theorem dX10_doHeat_52 : decode cX10_doHeat 52 = .ok (.aload_n 0, 1) := by decide +kernel
theorem dX10_doHeat_53 : decode cX10_doHeat 53 = .ok (.iconst 2, 1) := by decide +kernel
theorem dX10_doHeat_54 : decode cX10_doHeat 54 = .ok (.bipush 8, 2) := by decide +kernel
theorem dX10_doHeat_56 : decode cX10_doHeat 56 = .ok (.aload_n 0, 1) := by decide +kernel
theorem dX10_doHeat_57 : decode cX10_doHeat 57 = .ok (.iload_n 2, 1) := by decide +kernel
theorem dX10_doHeat_58 : decode cX10_doHeat 58 = .ok (.iconst 2, 1) := by decide +kernel
theorem dX10_doHeat_59 : decode cX10_doHeat 59 = .ok (.invokevirtual 134, 3) := by decide +kernel
theorem dX10_doHeat_62 : decode cX10_doHeat 62 = .ok (.invokevirtual 108, 3) := by decide +kernel
theorem dX10_doHeat_65 : decode cX10_doHeat 65 = .ok (.ireturn, 1) := by decide +kernel
theorem dX10_doHeat_66 : decode cX10_doHeat 66 = .ok (.aload_n 0, 1) := by decide +kernel
theorem dX10_doHeat_67 : decode cX10_doHeat 67 = .ok (.getfield 9, 3) := by decide +kernel
theorem dX10_doHeat_70 : decode cX10_doHeat 70 = .ok (.bipush 121, 2) := by decide +kernel
theorem dX10_doHeat_72 : decode cX10_doHeat 72 = .ok (.iconst 2, 1) := by decide +kernel
theorem dX10_doHeat_73 : decode cX10_doHeat 73 = .ok (.iload_n 1, 1) := by decide +kernel
theorem dX10_doHeat_74 : decode cX10_doHeat 74 = .ok (.imul, 1) := by decide +kernel
theorem dX10_doHeat_75 : decode cX10_doHeat 75 = .ok (.iadd, 1) := by decide +kernel
theorem dX10_doHeat_76 : decode cX10_doHeat 76 = .ok (.iconst 1, 1) := by decide +kernel
theorem dX10_doHeat_77 : decode cX10_doHeat 77 = .ok (.iadd, 1) := by decide +kernel
theorem dX10_doHeat_78 : decode cX10_doHeat 78 = .ok (.iload_n 2, 1) := by decide +kernel
theorem dX10_doHeat_79 : decode cX10_doHeat 79 = .ok (.iastore, 1) := by decide +kernel
theorem dX10_doHeat_80 : decode cX10_doHeat 80 = .ok (.aload_n 0, 1) := by decide +kernel
theorem dX10_doHeat_81 : decode cX10_doHeat 81 = .ok (.iload_n 2, 1) := by decide +kernel
theorem dX10_doHeat_82 : decode cX10_doHeat 82 = .ok (.iconst 2, 1) := by decide +kernel
theorem dX10_doHeat_83 : decode cX10_doHeat 83 = .ok (.iload_n 1, 1) := by decide +kernel
theorem dX10_doHeat_84 : decode cX10_doHeat 84 = .ok (.invokevirtual 137, 3) := by decide +kernel
theorem dX10_doHeat_87 : decode cX10_doHeat 87 = .ok (.aload_n 0, 1) := by decide +kernel
theorem dX10_doHeat_88 : decode cX10_doHeat 88 = .ok (.iload_n 1, 1) := by decide +kernel
theorem dX10_doHeat_89 : decode cX10_doHeat 89 = .ok (.invokevirtual 152, 3) := by decide +kernel
theorem dX10_doHeat_92 : decode cX10_doHeat 92 = .ok (.ireturn, 1) := by decide +kernel
theorem dX10_heat_0 : decode cX10_heat 0 = .ok (.aload_n 0, 1) := by decide +kernel
theorem dX10_heat_1 : decode cX10_heat 1 = .ok (.invokevirtual 101, 3) := by decide +kernel
theorem dX10_heat_4 : decode cX10_heat 4 = .ok (.aload_n 0, 1) := by decide +kernel
theorem dX10_heat_5 : decode cX10_heat 5 = .ok (.aload_n 0, 1) := by decide +kernel
theorem dX10_heat_6 : decode cX10_heat 6 = .ok (.iload_n 1, 1) := by decide +kernel
theorem dX10_heat_7 : decode cX10_heat 7 = .ok (.iload_n 2, 1) := by decide +kernel
theorem dX10_heat_8 : decode cX10_heat 8 = .ok (.invokevirtual 158, 3) := by decide +kernel
theorem dX10_heat_11 : decode cX10_heat 11 = .ok (.invokevirtual 116, 3) := by decide +kernel
theorem dX10_heat_14 : decode cX10_heat 14 = .ok (.ireturn, 1) := by decide +kernel
theorem dX10_doCold_0 : decode cX10_doCold 0 = .ok (.aload_n 0, 1) := by decide +kernel
theorem dX10_doCold_1 : decode cX10_doCold 1 = .ok (.iload_n 1, 1) := by decide +kernel
theorem dX10_doCold_2 : decode cX10_doCold 2 = .ok (.invokevirtual 149, 3) := by decide +kernel
theorem dX10_doCold_5 : decode cX10_doCold 5 = .ok (.ifCond .ne 9, 3) := by decide +kernel
theorem dX10_doCold_8 : decode cX10_doCold 8 = .ok (.aload_n 0, 1) := by decide +kernel
theorem dX10_doCold_9 : decode cX10_doCold 9 = .ok (.iconst 1, 1) := by decide +kernel
theorem dX10_doCold_10 : decode cX10_doCold 10 = .ok (.invokevirtual 104, 3) := by decide +kernel
theorem dX10_doCold_13 : decode cX10_doCold 13 = .ok (.ireturn, 1) := by decide +kernel
theorem dX10_doCold_14 : decode cX10_doCold 14 = .ok (.aload_n 0, 1) := by decide +kernel
theorem dX10_doCold_15 : decode cX10_doCold 15 = .ok (.iload_n 1, 1) := by decide +kernel
theorem dX10_doCold_16 : decode cX10_doCold 16 = .ok (.invokevirtual 155, 3) := by decide +kernel
theorem dX10_doCold_19 : decode cX10_doCold 19 = .ok (.istore_n 2, 1) := by decide +kernel
theorem dX10_doCold_20 : decode cX10_doCold 20 = .ok (.iload_n 2, 1) := by decide +kernel
theorem dX10_doCold_21 : decode cX10_doCold 21 = .ok (.ifCond .ge 12, 3) := by decide +kernel
theorem dX10_doCold_24 : decode cX10_doCold 24 = .ok (.aload_n 0, 1) := by decide +kernel
theorem dX10_doCold_25 : decode cX10_doCold 25 = .ok (.iconst 2, 1) := by decide +kernel
theorem dX10_doCold_26 : decode cX10_doCold 26 = .ok (.bipush 9, 2) := by decide +kernel
theorem dX10_doCold_28 : decode cX10_doCold 28 = .ok (.iload_n 1, 1) := by decide +kernel
theorem dX10_doCold_29 : decode cX10_doCold 29 = .ok (.invokevirtual 108, 3) := by decide +kernel
theorem dX10_doCold_32 : decode cX10_doCold 32 = .ok (.ireturn, 1) := by decide +kernel
theorem dX10_doCold_33 : decode cX10_doCold 33 = .ok (.aload_n 0, 1) := by decide +kernel
theorem dX10_doCold_34 : decode cX10_doCold 34 = .ok (.getfield 9, 3) := by decide +kernel
theorem dX10_doCold_37 : decode cX10_doCold 37 = .ok (.bipush 121, 2) := by decide +kernel
theorem dX10_doCold_39 : decode cX10_doCold 39 = .ok (.iconst 2, 1) := by decide +kernel
theorem dX10_doCold_40 : decode cX10_doCold 40 = .ok (.iload_n 1, 1) := by decide +kernel
theorem dX10_doCold_41 : decode cX10_doCold 41 = .ok (.imul, 1) := by decide +kernel
theorem dX10_doCold_42 : decode cX10_doCold 42 = .ok (.iadd, 1) := by decide +kernel
theorem dX10_doCold_43 : decode cX10_doCold 43 = .ok (.iconst 1, 1) := by decide +kernel
theorem dX10_doCold_44 : decode cX10_doCold 44 = .ok (.iadd, 1) := by decide +kernel
theorem dX10_doCold_45 : decode cX10_doCold 45 = .ok (.iconst (-1), 1) := by decide +kernel
theorem dX10_doCold_46 : decode cX10_doCold 46 = .ok (.iastore, 1) := by decide +kernel
theorem dX10_doCold_47 : decode cX10_doCold 47 = .ok (.aload_n 0, 1) := by decide +kernel
theorem dX10_doCold_48 : decode cX10_doCold 48 = .ok (.iload_n 2, 1) := by decide +kernel
theorem dX10_doCold_49 : decode cX10_doCold 49 = .ok (.iconst 2, 1) := by decide +kernel
theorem dX10_doCold_50 : decode cX10_doCold 50 = .ok (.iconst (-1), 1) := by decide +kernel
theorem dX10_doCold_51 : decode cX10_doCold 51 = .ok (.invokevirtual 137, 3) := by decide +kernel
theorem dX10_doCold_54 : decode cX10_doCold 54 = .ok (.iload_n 2, 1) := by decide +kernel
theorem dX10_doCold_55 : decode cX10_doCold 55 = .ok (.ireturn, 1) := by decide +kernel
theorem dX10_cold_0 : decode cX10_cold 0 = .ok (.aload_n 0, 1) := by decide +kernel
theorem dX10_cold_1 : decode cX10_cold 1 = .ok (.invokevirtual 101, 3) := by decide +kernel
theorem dX10_cold_4 : decode cX10_cold 4 = .ok (.aload_n 0, 1) := by decide +kernel
theorem dX10_cold_5 : decode cX10_cold 5 = .ok (.aload_n 0, 1) := by decide +kernel
theorem dX10_cold_6 : decode cX10_cold 6 = .ok (.iload_n 1, 1) := by decide +kernel
theorem dX10_cold_7 : decode cX10_cold 7 = .ok (.invokevirtual 161, 3) := by decide +kernel
theorem dX10_cold_10 : decode cX10_cold 10 = .ok (.invokevirtual 116, 3) := by decide +kernel
theorem dX10_cold_13 : decode cX10_cold 13 = .ok (.ireturn, 1) := by decide +kernel
theorem dX10_gas_0 : decode cX10_gas 0 = .ok (.aload_n 0, 1) := by decide +kernel
theorem dX10_gas_1 : decode cX10_gas 1 = .ok (.invokevirtual 101, 3) := by decide +kernel
theorem dX10_gas_4 : decode cX10_gas 4 = .ok (.aload_n 0, 1) := by decide +kernel
theorem dX10_gas_5 : decode cX10_gas 5 = .ok (.iload_n 1, 1) := by decide +kernel
theorem dX10_gas_6 : decode cX10_gas 6 = .ok (.invokevirtual 149, 3) := by decide +kernel
theorem dX10_gas_9 : decode cX10_gas 9 = .ok (.ifCond .ne 9, 3) := by decide +kernel
theorem dX10_gas_12 : decode cX10_gas 12 = .ok (.aload_n 0, 1) := by decide +kernel
theorem dX10_gas_13 : decode cX10_gas 13 = .ok (.iconst 1, 1) := by decide +kernel
theorem dX10_gas_14 : decode cX10_gas 14 = .ok (.invokevirtual 104, 3) := by decide +kernel
theorem dX10_gas_17 : decode cX10_gas 17 = .ok (.ireturn, 1) := by decide +kernel
theorem dX10_gas_18 : decode cX10_gas 18 = .ok (.iload_n 2, 1) := by decide +kernel
theorem dX10_gas_19 : decode cX10_gas 19 = .ok (.iconst 1, 1) := by decide +kernel
theorem dX10_gas_20 : decode cX10_gas 20 = .ok (.bipush 12, 2) := by decide +kernel
theorem dX10_gas_22 : decode cX10_gas 22 = .ok (.invokestatic 85, 3) := by decide +kernel
theorem dX10_gas_25 : decode cX10_gas 25 = .ok (.ifCond .ne 9, 3) := by decide +kernel
theorem dX10_gas_28 : decode cX10_gas 28 = .ok (.aload_n 0, 1) := by decide +kernel
theorem dX10_gas_29 : decode cX10_gas 29 = .ok (.iconst 2, 1) := by decide +kernel
theorem dX10_gas_30 : decode cX10_gas 30 = .ok (.invokevirtual 104, 3) := by decide +kernel
theorem dX10_gas_33 : decode cX10_gas 33 = .ok (.ireturn, 1) := by decide +kernel
theorem dX10_gas_34 : decode cX10_gas 34 = .ok (.aload_n 0, 1) := by decide +kernel
theorem dX10_gas_35 : decode cX10_gas 35 = .ok (.getfield 9, 3) := by decide +kernel
theorem dX10_gas_38 : decode cX10_gas 38 = .ok (.bipush 7, 2) := by decide +kernel
theorem dX10_gas_40 : decode cX10_gas 40 = .ok (.iaload, 1) := by decide +kernel
theorem dX10_gas_41 : decode cX10_gas 41 = .ok (.iload_n 2, 1) := by decide +kernel
theorem dX10_gas_42 : decode cX10_gas 42 = .ok (.if_icmp .ge 20, 3) := by decide +kernel
theorem dX10_gas_45 : decode cX10_gas 45 = .ok (.aload_n 0, 1) := by decide +kernel
theorem dX10_gas_46 : decode cX10_gas 46 = .ok (.iconst 3, 1) := by decide +kernel
theorem dX10_gas_47 : decode cX10_gas 47 = .ok (.bipush 12, 2) := by decide +kernel
theorem dX10_gas_49 : decode cX10_gas 49 = .ok (.iload_n 2, 1) := by decide +kernel
theorem dX10_gas_50 : decode cX10_gas 50 = .ok (.aload_n 0, 1) := by decide +kernel
theorem dX10_gas_51 : decode cX10_gas 51 = .ok (.getfield 9, 3) := by decide +kernel
theorem dX10_gas_54 : decode cX10_gas 54 = .ok (.bipush 7, 2) := by decide +kernel
theorem dX10_gas_56 : decode cX10_gas 56 = .ok (.iaload, 1) := by decide +kernel
theorem dX10_gas_57 : decode cX10_gas 57 = .ok (.isub, 1) := by decide +kernel
theorem dX10_gas_58 : decode cX10_gas 58 = .ok (.invokevirtual 108, 3) := by decide +kernel
theorem dX10_gas_61 : decode cX10_gas 61 = .ok (.ireturn, 1) := by decide +kernel
theorem dX10_gas_62 : decode cX10_gas 62 = .ok (.aload_n 0, 1) := by decide +kernel
theorem dX10_gas_63 : decode cX10_gas 63 = .ok (.getfield 9, 3) := by decide +kernel
theorem dX10_gas_66 : decode cX10_gas 66 = .ok (.bipush 7, 2) := by decide +kernel
theorem dX10_gas_68 : decode cX10_gas 68 = .ok (.dup2, 1) := by decide +kernel
theorem dX10_gas_69 : decode cX10_gas 69 = .ok (.iaload, 1) := by decide +kernel
theorem dX10_gas_70 : decode cX10_gas 70 = .ok (.iload_n 2, 1) := by decide +kernel
theorem dX10_gas_71 : decode cX10_gas 71 = .ok (.isub, 1) := by decide +kernel
theorem dX10_gas_72 : decode cX10_gas 72 = .ok (.iastore, 1) := by decide +kernel
theorem dX10_gas_73 : decode cX10_gas 73 = .ok (.aload_n 0, 1) := by decide +kernel
theorem dX10_gas_74 : decode cX10_gas 74 = .ok (.getfield 9, 3) := by decide +kernel
theorem dX10_gas_77 : decode cX10_gas 77 = .ok (.bipush 121, 2) := by decide +kernel
theorem dX10_gas_79 : decode cX10_gas 79 = .ok (.iconst 2, 1) := by decide +kernel
theorem dX10_gas_80 : decode cX10_gas 80 = .ok (.iload_n 1, 1) := by decide +kernel
theorem dX10_gas_81 : decode cX10_gas 81 = .ok (.imul, 1) := by decide +kernel
theorem dX10_gas_82 : decode cX10_gas 82 = .ok (.iadd, 1) := by decide +kernel
theorem dX10_gas_83 : decode cX10_gas 83 = .ok (.bipush 60, 2) := by decide +kernel
theorem dX10_gas_85 : decode cX10_gas 85 = .ok (.aload_n 0, 1) := by decide +kernel
theorem dX10_gas_86 : decode cX10_gas 86 = .ok (.iload_n 1, 1) := by decide +kernel
theorem dX10_gas_87 : decode cX10_gas 87 = .ok (.invokevirtual 152, 3) := by decide +kernel
theorem dX10_gas_90 : decode cX10_gas 90 = .ok (.iconst 5, 1) := by decide +kernel
theorem dX10_gas_91 : decode cX10_gas 91 = .ok (.iload_n 2, 1) := by decide +kernel
theorem dX10_gas_92 : decode cX10_gas 92 = .ok (.imul, 1) := by decide +kernel
theorem dX10_gas_93 : decode cX10_gas 93 = .ok (.iadd, 1) := by decide +kernel
theorem dX10_gas_94 : decode cX10_gas 94 = .ok (.invokestatic 164, 3) := by decide +kernel
theorem dX10_gas_97 : decode cX10_gas 97 = .ok (.iastore, 1) := by decide +kernel
theorem dX10_gas_98 : decode cX10_gas 98 = .ok (.aload_n 0, 1) := by decide +kernel
theorem dX10_gas_99 : decode cX10_gas 99 = .ok (.aload_n 0, 1) := by decide +kernel
theorem dX10_gas_100 : decode cX10_gas 100 = .ok (.iload_n 1, 1) := by decide +kernel
theorem dX10_gas_101 : decode cX10_gas 101 = .ok (.invokevirtual 152, 3) := by decide +kernel
theorem dX10_gas_104 : decode cX10_gas 104 = .ok (.invokevirtual 116, 3) := by decide +kernel
theorem dX10_gas_107 : decode cX10_gas 107 = .ok (.ireturn, 1) := by decide +kernel
theorem dX10_doWash_0 : decode cX10_doWash 0 = .ok (.iload_n 1, 1) := by decide +kernel
theorem dX10_doWash_1 : decode cX10_doWash 1 = .ok (.iconst 1, 1) := by decide +kernel
theorem dX10_doWash_2 : decode cX10_doWash 2 = .ok (.bipush 20, 2) := by decide +kernel
theorem dX10_doWash_4 : decode cX10_doWash 4 = .ok (.invokestatic 85, 3) := by decide +kernel
theorem dX10_doWash_7 : decode cX10_doWash 7 = .ok (.ifCond .ne 9, 3) := by decide +kernel
theorem dX10_doWash_10 : decode cX10_doWash 10 = .ok (.aload_n 0, 1) := by decide +kernel
theorem dX10_doWash_11 : decode cX10_doWash 11 = .ok (.iconst 1, 1) := by decide +kernel
theorem dX10_doWash_12 : decode cX10_doWash 12 = .ok (.invokevirtual 104, 3) := by decide +kernel
theorem dX10_doWash_15 : decode cX10_doWash 15 = .ok (.ireturn, 1) := by decide +kernel
theorem dX10_doWash_16 : decode cX10_doWash 16 = .ok (.iload_n 1, 1) := by decide +kernel
theorem dX10_doWash_17 : decode cX10_doWash 17 = .ok (.aload_n 0, 1) := by decide +kernel
theorem dX10_doWash_18 : decode cX10_doWash 18 = .ok (.getfield 9, 3) := by decide +kernel
theorem dX10_doWash_21 : decode cX10_doWash 21 = .ok (.iconst 5, 1) := by decide +kernel
theorem dX10_doWash_22 : decode cX10_doWash 22 = .ok (.iaload, 1) := by decide +kernel
theorem dX10_doWash_23 : decode cX10_doWash 23 = .ok (.invokestatic 164, 3) := by decide +kernel
theorem dX10_doWash_26 : decode cX10_doWash 26 = .ok (.istore_n 2, 1) := by decide +kernel
theorem dX10_doWash_27 : decode cX10_doWash 27 = .ok (.iload_n 2, 1) := by decide +kernel
theorem dX10_doWash_28 : decode cX10_doWash 28 = .ok (.ifCond .ne 12, 3) := by decide +kernel
theorem dX10_doWash_31 : decode cX10_doWash 31 = .ok (.aload_n 0, 1) := by decide +kernel
theorem dX10_doWash_32 : decode cX10_doWash 32 = .ok (.iconst 2, 1) := by decide +kernel
theorem dX10_doWash_33 : decode cX10_doWash 33 = .ok (.bipush 13, 2) := by decide +kernel
theorem dX10_doWash_35 : decode cX10_doWash 35 = .ok (.iconst 0, 1) := by decide +kernel
theorem dX10_doWash_36 : decode cX10_doWash 36 = .ok (.invokevirtual 108, 3) := by decide +kernel
theorem dX10_doWash_39 : decode cX10_doWash 39 = .ok (.ireturn, 1) := by decide +kernel
theorem dX10_doWash_40 : decode cX10_doWash 40 = .ok (.aload_n 0, 1) := by decide +kernel
theorem dX10_doWash_41 : decode cX10_doWash 41 = .ok (.getfield 9, 3) := by decide +kernel
theorem dX10_doWash_44 : decode cX10_doWash 44 = .ok (.bipush 7, 2) := by decide +kernel
theorem dX10_doWash_46 : decode cX10_doWash 46 = .ok (.iaload, 1) := by decide +kernel
theorem dX10_doWash_47 : decode cX10_doWash 47 = .ok (.iload_n 2, 1) := by decide +kernel
theorem dX10_doWash_48 : decode cX10_doWash 48 = .ok (.if_icmp .ge 20, 3) := by decide +kernel
theorem dX10_doWash_51 : decode cX10_doWash 51 = .ok (.aload_n 0, 1) := by decide +kernel
theorem dX10_doWash_52 : decode cX10_doWash 52 = .ok (.iconst 2, 1) := by decide +kernel
theorem dX10_doWash_53 : decode cX10_doWash 53 = .ok (.bipush 12, 2) := by decide +kernel
theorem dX10_doWash_55 : decode cX10_doWash 55 = .ok (.iload_n 2, 1) := by decide +kernel
theorem dX10_doWash_56 : decode cX10_doWash 56 = .ok (.aload_n 0, 1) := by decide +kernel
theorem dX10_doWash_57 : decode cX10_doWash 57 = .ok (.getfield 9, 3) := by decide +kernel
theorem dX10_doWash_60 : decode cX10_doWash 60 = .ok (.bipush 7, 2) := by decide +kernel
theorem dX10_doWash_62 : decode cX10_doWash 62 = .ok (.iaload, 1) := by decide +kernel
theorem dX10_doWash_63 : decode cX10_doWash 63 = .ok (.isub, 1) := by decide +kernel
theorem dX10_doWash_64 : decode cX10_doWash 64 = .ok (.invokevirtual 108, 3) := by decide +kernel
theorem dX10_doWash_67 : decode cX10_doWash 67 = .ok (.ireturn, 1) := by decide +kernel
theorem dX10_doWash_68 : decode cX10_doWash 68 = .ok (.aload_n 0, 1) := by decide +kernel
theorem dX10_doWash_69 : decode cX10_doWash 69 = .ok (.getfield 9, 3) := by decide +kernel
theorem dX10_doWash_72 : decode cX10_doWash 72 = .ok (.bipush 7, 2) := by decide +kernel
theorem dX10_doWash_74 : decode cX10_doWash 74 = .ok (.dup2, 1) := by decide +kernel
theorem dX10_doWash_75 : decode cX10_doWash 75 = .ok (.iaload, 1) := by decide +kernel
theorem dX10_doWash_76 : decode cX10_doWash 76 = .ok (.iload_n 2, 1) := by decide +kernel
theorem dX10_doWash_77 : decode cX10_doWash 77 = .ok (.isub, 1) := by decide +kernel
theorem dX10_doWash_78 : decode cX10_doWash 78 = .ok (.iastore, 1) := by decide +kernel
theorem dX10_doWash_79 : decode cX10_doWash 79 = .ok (.aload_n 0, 1) := by decide +kernel
theorem dX10_doWash_80 : decode cX10_doWash 80 = .ok (.getfield 9, 3) := by decide +kernel
theorem dX10_doWash_83 : decode cX10_doWash 83 = .ok (.iconst 5, 1) := by decide +kernel
theorem dX10_doWash_84 : decode cX10_doWash 84 = .ok (.dup2, 1) := by decide +kernel
theorem dX10_doWash_85 : decode cX10_doWash 85 = .ok (.iaload, 1) := by decide +kernel
theorem dX10_doWash_86 : decode cX10_doWash 86 = .ok (.iload_n 2, 1) := by decide +kernel
theorem dX10_doWash_87 : decode cX10_doWash 87 = .ok (.isub, 1) := by decide +kernel
theorem dX10_doWash_88 : decode cX10_doWash 88 = .ok (.iastore, 1) := by decide +kernel
theorem dX10_doWash_89 : decode cX10_doWash 89 = .ok (.aload_n 0, 1) := by decide +kernel
theorem dX10_doWash_90 : decode cX10_doWash 90 = .ok (.getfield 9, 3) := by decide +kernel
theorem dX10_doWash_93 : decode cX10_doWash 93 = .ok (.iconst 4, 1) := by decide +kernel
theorem dX10_doWash_94 : decode cX10_doWash 94 = .ok (.dup2, 1) := by decide +kernel
theorem dX10_doWash_95 : decode cX10_doWash 95 = .ok (.iaload, 1) := by decide +kernel
theorem dX10_doWash_96 : decode cX10_doWash 96 = .ok (.iload_n 2, 1) := by decide +kernel
theorem dX10_doWash_97 : decode cX10_doWash 97 = .ok (.iadd, 1) := by decide +kernel
theorem dX10_doWash_98 : decode cX10_doWash 98 = .ok (.iastore, 1) := by decide +kernel
theorem dX10_doWash_99 : decode cX10_doWash 99 = .ok (.iload_n 2, 1) := by decide +kernel
theorem dX10_doWash_100 : decode cX10_doWash 100 = .ok (.ireturn, 1) := by decide +kernel
theorem dX10_wash_0 : decode cX10_wash 0 = .ok (.aload_n 0, 1) := by decide +kernel
theorem dX10_wash_1 : decode cX10_wash 1 = .ok (.invokevirtual 101, 3) := by decide +kernel
theorem dX10_wash_4 : decode cX10_wash 4 = .ok (.aload_n 0, 1) := by decide +kernel
theorem dX10_wash_5 : decode cX10_wash 5 = .ok (.aload_n 0, 1) := by decide +kernel
theorem dX10_wash_6 : decode cX10_wash 6 = .ok (.iload_n 1, 1) := by decide +kernel
theorem dX10_wash_7 : decode cX10_wash 7 = .ok (.invokevirtual 169, 3) := by decide +kernel
theorem dX10_wash_10 : decode cX10_wash 10 = .ok (.invokevirtual 116, 3) := by decide +kernel
theorem dX10_wash_13 : decode cX10_wash 13 = .ok (.ireturn, 1) := by decide +kernel
theorem dX10_doSoap_0 : decode cX10_doSoap 0 = .ok (.iload_n 1, 1) := by decide +kernel
theorem dX10_doSoap_1 : decode cX10_doSoap 1 = .ok (.iconst 1, 1) := by decide +kernel
theorem dX10_doSoap_2 : decode cX10_doSoap 2 = .ok (.bipush 20, 2) := by decide +kernel
theorem dX10_doSoap_4 : decode cX10_doSoap 4 = .ok (.invokestatic 85, 3) := by decide +kernel
theorem dX10_doSoap_7 : decode cX10_doSoap 7 = .ok (.ifCond .ne 9, 3) := by decide +kernel
theorem dX10_doSoap_10 : decode cX10_doSoap 10 = .ok (.aload_n 0, 1) := by decide +kernel
theorem dX10_doSoap_11 : decode cX10_doSoap 11 = .ok (.iconst 1, 1) := by decide +kernel
theorem dX10_doSoap_12 : decode cX10_doSoap 12 = .ok (.invokevirtual 104, 3) := by decide +kernel
theorem dX10_doSoap_15 : decode cX10_doSoap 15 = .ok (.ireturn, 1) := by decide +kernel
theorem dX10_doSoap_16 : decode cX10_doSoap 16 = .ok (.iload_n 1, 1) := by decide +kernel
theorem dX10_doSoap_17 : decode cX10_doSoap 17 = .ok (.bipush 99, 2) := by decide +kernel
theorem dX10_doSoap_19 : decode cX10_doSoap 19 = .ok (.aload_n 0, 1) := by decide +kernel
theorem dX10_doSoap_20 : decode cX10_doSoap 20 = .ok (.getfield 9, 3) := by decide +kernel
theorem dX10_doSoap_23 : decode cX10_doSoap 23 = .ok (.bipush 6, 2) := by decide +kernel
theorem dX10_doSoap_25 : decode cX10_doSoap 25 = .ok (.iaload, 1) := by decide +kernel
theorem dX10_doSoap_26 : decode cX10_doSoap 26 = .ok (.isub, 1) := by decide +kernel
theorem dX10_doSoap_27 : decode cX10_doSoap 27 = .ok (.invokestatic 164, 3) := by decide +kernel
theorem dX10_doSoap_30 : decode cX10_doSoap 30 = .ok (.istore_n 2, 1) := by decide +kernel
theorem dX10_doSoap_31 : decode cX10_doSoap 31 = .ok (.aload_n 0, 1) := by decide +kernel
theorem dX10_doSoap_32 : decode cX10_doSoap 32 = .ok (.getfield 9, 3) := by decide +kernel
theorem dX10_doSoap_35 : decode cX10_doSoap 35 = .ok (.bipush 7, 2) := by decide +kernel
theorem dX10_doSoap_37 : decode cX10_doSoap 37 = .ok (.iaload, 1) := by decide +kernel
theorem dX10_doSoap_38 : decode cX10_doSoap 38 = .ok (.iload_n 2, 1) := by decide +kernel
theorem dX10_doSoap_39 : decode cX10_doSoap 39 = .ok (.if_icmp .ge 20, 3) := by decide +kernel
theorem dX10_doSoap_42 : decode cX10_doSoap 42 = .ok (.aload_n 0, 1) := by decide +kernel
theorem dX10_doSoap_43 : decode cX10_doSoap 43 = .ok (.iconst 2, 1) := by decide +kernel
theorem dX10_doSoap_44 : decode cX10_doSoap 44 = .ok (.bipush 12, 2) := by decide +kernel
theorem dX10_doSoap_46 : decode cX10_doSoap 46 = .ok (.iload_n 2, 1) := by decide +kernel
theorem dX10_doSoap_47 : decode cX10_doSoap 47 = .ok (.aload_n 0, 1) := by decide +kernel
theorem dX10_doSoap_48 : decode cX10_doSoap 48 = .ok (.getfield 9, 3) := by decide +kernel
theorem dX10_doSoap_51 : decode cX10_doSoap 51 = .ok (.bipush 7, 2) := by decide +kernel
theorem dX10_doSoap_53 : decode cX10_doSoap 53 = .ok (.iaload, 1) := by decide +kernel
theorem dX10_doSoap_54 : decode cX10_doSoap 54 = .ok (.isub, 1) := by decide +kernel
theorem dX10_doSoap_55 : decode cX10_doSoap 55 = .ok (.invokevirtual 108, 3) := by decide +kernel
theorem dX10_doSoap_58 : decode cX10_doSoap 58 = .ok (.ireturn, 1) := by decide +kernel
theorem dX10_doSoap_59 : decode cX10_doSoap 59 = .ok (.aload_n 0, 1) := by decide +kernel
theorem dX10_doSoap_60 : decode cX10_doSoap 60 = .ok (.getfield 9, 3) := by decide +kernel
theorem dX10_doSoap_63 : decode cX10_doSoap 63 = .ok (.bipush 7, 2) := by decide +kernel
theorem dX10_doSoap_65 : decode cX10_doSoap 65 = .ok (.dup2, 1) := by decide +kernel
theorem dX10_doSoap_66 : decode cX10_doSoap 66 = .ok (.iaload, 1) := by decide +kernel
theorem dX10_doSoap_67 : decode cX10_doSoap 67 = .ok (.iload_n 2, 1) := by decide +kernel
theorem dX10_doSoap_68 : decode cX10_doSoap 68 = .ok (.isub, 1) := by decide +kernel
theorem dX10_doSoap_69 : decode cX10_doSoap 69 = .ok (.iastore, 1) := by decide +kernel
theorem dX10_doSoap_70 : decode cX10_doSoap 70 = .ok (.aload_n 0, 1) := by decide +kernel
theorem dX10_doSoap_71 : decode cX10_doSoap 71 = .ok (.getfield 9, 3) := by decide +kernel
theorem dX10_doSoap_74 : decode cX10_doSoap 74 = .ok (.bipush 6, 2) := by decide +kernel
theorem dX10_doSoap_76 : decode cX10_doSoap 76 = .ok (.dup2, 1) := by decide +kernel
theorem dX10_doSoap_77 : decode cX10_doSoap 77 = .ok (.iaload, 1) := by decide +kernel
theorem dX10_doSoap_78 : decode cX10_doSoap 78 = .ok (.iload_n 2, 1) := by decide +kernel
theorem dX10_doSoap_79 : decode cX10_doSoap 79 = .ok (.iadd, 1) := by decide +kernel
theorem dX10_doSoap_80 : decode cX10_doSoap 80 = .ok (.iastore, 1) := by decide +kernel
theorem dX10_doSoap_81 : decode cX10_doSoap 81 = .ok (.aload_n 0, 1) := by decide +kernel
theorem dX10_doSoap_82 : decode cX10_doSoap 82 = .ok (.getfield 9, 3) := by decide +kernel
theorem dX10_doSoap_85 : decode cX10_doSoap 85 = .ok (.bipush 6, 2) := by decide +kernel
theorem dX10_doSoap_87 : decode cX10_doSoap 87 = .ok (.iaload, 1) := by decide +kernel
theorem dX10_doSoap_88 : decode cX10_doSoap 88 = .ok (.ireturn, 1) := by decide +kernel
theorem dX10_soap_0 : decode cX10_soap 0 = .ok (.aload_n 0, 1) := by decide +kernel
theorem dX10_soap_1 : decode cX10_soap 1 = .ok (.invokevirtual 101, 3) := by decide +kernel
theorem dX10_soap_4 : decode cX10_soap 4 = .ok (.aload_n 0, 1) := by decide +kernel
theorem dX10_soap_5 : decode cX10_soap 5 = .ok (.aload_n 0, 1) := by decide +kernel
theorem dX10_soap_6 : decode cX10_soap 6 = .ok (.iload_n 1, 1) := by decide +kernel
theorem dX10_soap_7 : decode cX10_soap 7 = .ok (.invokevirtual 172, 3) := by decide +kernel
theorem dX10_soap_10 : decode cX10_soap 10 = .ok (.invokevirtual 116, 3) := by decide +kernel
theorem dX10_soap_13 : decode cX10_soap 13 = .ok (.ireturn, 1) := by decide +kernel
theorem dX10_bathes_0 : decode cX10_bathes 0 = .ok (.aload_n 0, 1) := by decide +kernel
theorem dX10_bathes_1 : decode cX10_bathes 1 = .ok (.getfield 9, 3) := by decide +kernel
theorem dX10_bathes_4 : decode cX10_bathes 4 = .ok (.bipush 6, 2) := by decide +kernel
theorem dX10_bathes_6 : decode cX10_bathes 6 = .ok (.dup2, 1) := by decide +kernel
theorem dX10_bathes_7 : decode cX10_bathes 7 = .ok (.iaload, 1) := by decide +kernel
theorem dX10_bathes_8 : decode cX10_bathes 8 = .ok (.iconst 1, 1) := by decide +kernel
theorem dX10_bathes_9 : decode cX10_bathes 9 = .ok (.isub, 1) := by decide +kernel
theorem dX10_bathes_10 : decode cX10_bathes 10 = .ok (.iastore, 1) := by decide +kernel
theorem dX10_bathes_11 : decode cX10_bathes 11 = .ok (.aload_n 0, 1) := by decide +kernel
theorem dX10_bathes_12 : decode cX10_bathes 12 = .ok (.getfield 9, 3) := by decide +kernel
theorem dX10_bathes_15 : decode cX10_bathes 15 = .ok (.bipush 7, 2) := by decide +kernel
theorem dX10_bathes_17 : decode cX10_bathes 17 = .ok (.dup2, 1) := by decide +kernel
theorem dX10_bathes_18 : decode cX10_bathes 18 = .ok (.iaload, 1) := by decide +kernel
theorem dX10_bathes_19 : decode cX10_bathes 19 = .ok (.aload_n 0, 1) := by decide +kernel
theorem dX10_bathes_20 : decode cX10_bathes 20 = .ok (.iload_n 2, 1) := by decide +kernel
theorem dX10_bathes_21 : decode cX10_bathes 21 = .ok (.iconst 4, 1) := by decide +kernel
theorem dX10_bathes_22 : decode cX10_bathes 22 = .ok (.invokevirtual 93, 3) := by decide +kernel
theorem dX10_bathes_25 : decode cX10_bathes 25 = .ok (.bipush 45, 2) := by decide +kernel
theorem dX10_bathes_27 : decode cX10_bathes 27 = .ok (.if_icmp .lt 7, 3) := by decide +kernel
theorem dX10_bathes_30 : decode cX10_bathes 30 = .ok (.iconst 4, 1) := by decide +kernel
theorem dX10_bathes_31 : decode cX10_bathes 31 = .ok (.goto 4, 3) := by decide +kernel
theorem dX10_bathes_34 : decode cX10_bathes 34 = .ok (.iconst 3, 1) := by decide +kernel
theorem dX10_bathes_35 : decode cX10_bathes 35 = .ok (.iadd, 1) := by decide +kernel
theorem dX10_bathes_36 : decode cX10_bathes 36 = .ok (.iastore, 1) := by decide +kernel
theorem dX10_bathes_37 : decode cX10_bathes 37 = .ok (.aload_n 0, 1) := by decide +kernel
theorem dX10_bathes_38 : decode cX10_bathes 38 = .ok (.getfield 9, 3) := by decide +kernel
theorem dX10_bathes_41 : decode cX10_bathes 41 = .ok (.iconst 5, 1) := by decide +kernel
theorem dX10_bathes_42 : decode cX10_bathes 42 = .ok (.dup2, 1) := by decide +kernel
theorem dX10_bathes_43 : decode cX10_bathes 43 = .ok (.iaload, 1) := by decide +kernel
theorem dX10_bathes_44 : decode cX10_bathes 44 = .ok (.iconst 1, 1) := by decide +kernel
theorem dX10_bathes_45 : decode cX10_bathes 45 = .ok (.iadd, 1) := by decide +kernel
theorem dX10_bathes_46 : decode cX10_bathes 46 = .ok (.iastore, 1) := by decide +kernel
theorem dX10_bathes_47 : decode cX10_bathes 47 = .ok (.aload_n 0, 1) := by decide +kernel
theorem dX10_bathes_48 : decode cX10_bathes 48 = .ok (.getfield 9, 3) := by decide +kernel
theorem dX10_bathes_51 : decode cX10_bathes 51 = .ok (.bipush 9, 2) := by decide +kernel
theorem dX10_bathes_53 : decode cX10_bathes 53 = .ok (.dup2, 1) := by decide +kernel
theorem dX10_bathes_54 : decode cX10_bathes 54 = .ok (.iaload, 1) := by decide +kernel
theorem dX10_bathes_55 : decode cX10_bathes 55 = .ok (.iconst 1, 1) := by decide +kernel
theorem dX10_bathes_56 : decode cX10_bathes 56 = .ok (.iadd, 1) := by decide +kernel
theorem dX10_bathes_57 : decode cX10_bathes 57 = .ok (.iastore, 1) := by decide +kernel
theorem dX10_bathes_58 : decode cX10_bathes 58 = .ok (.aload_n 0, 1) := by decide +kernel
theorem dX10_bathes_59 : decode cX10_bathes 59 = .ok (.iload_n 1, 1) := by decide +kernel
theorem dX10_bathes_60 : decode cX10_bathes 60 = .ok (.iconst 3, 1) := by decide +kernel
theorem dX10_bathes_61 : decode cX10_bathes 61 = .ok (.aload_n 0, 1) := by decide +kernel
theorem dX10_bathes_62 : decode cX10_bathes 62 = .ok (.iload_n 1, 1) := by decide +kernel
theorem dX10_bathes_63 : decode cX10_bathes 63 = .ok (.iconst 3, 1) := by decide +kernel
theorem dX10_bathes_64 : decode cX10_bathes 64 = .ok (.invokevirtual 134, 3) := by decide +kernel
theorem dX10_bathes_67 : decode cX10_bathes 67 = .ok (.iconst 1, 1) := by decide +kernel
theorem dX10_bathes_68 : decode cX10_bathes 68 = .ok (.iadd, 1) := by decide +kernel
theorem dX10_bathes_69 : decode cX10_bathes 69 = .ok (.invokevirtual 137, 3) := by decide +kernel
theorem dX10_bathes_72 : decode cX10_bathes 72 = .ok (.bipush 66, 2) := by decide +kernel
theorem dX10_bathes_74 : decode cX10_bathes 74 = .ok (.bipush 11, 2) := by decide +kernel
theorem dX10_bathes_76 : decode cX10_bathes 76 = .ok (.iload_n 1, 1) := by decide +kernel
theorem dX10_bathes_77 : decode cX10_bathes 77 = .ok (.imul, 1) := by decide +kernel
theorem dX10_bathes_78 : decode cX10_bathes 78 = .ok (.iadd, 1) := by decide +kernel
theorem dX10_bathes_79 : decode cX10_bathes 79 = .ok (.iconst 5, 1) := by decide +kernel
theorem dX10_bathes_80 : decode cX10_bathes 80 = .ok (.iadd, 1) := by decide +kernel
theorem dX10_bathes_81 : decode cX10_bathes 81 = .ok (.istore_n 3, 1) := by decide +kernel
theorem dX10_bathes_82 : decode cX10_bathes 82 = .ok (.aload_n 0, 1) := by decide +kernel
theorem dX10_bathes_83 : decode cX10_bathes 83 = .ok (.getfield 9, 3) := by decide +kernel
theorem dX10_bathes_86 : decode cX10_bathes 86 = .ok (.iload_n 3, 1) := by decide +kernel
theorem dX10_bathes_87 : decode cX10_bathes 87 = .ok (.iconst 1, 1) := by decide +kernel
theorem dX10_bathes_88 : decode cX10_bathes 88 = .ok (.iadd, 1) := by decide +kernel
theorem dX10_bathes_89 : decode cX10_bathes 89 = .ok (.aload_n 0, 1) := by decide +kernel
theorem dX10_bathes_90 : decode cX10_bathes 90 = .ok (.getfield 9, 3) := by decide +kernel
theorem dX10_bathes_93 : decode cX10_bathes 93 = .ok (.iload_n 3, 1) := by decide +kernel
theorem dX10_bathes_94 : decode cX10_bathes 94 = .ok (.iconst 5, 1) := by decide +kernel
theorem dX10_bathes_95 : decode cX10_bathes 95 = .ok (.invokestatic 66, 3) := by decide +kernel
theorem dX10_bathes_98 : decode cX10_bathes 98 = .ok (.aload_n 0, 1) := by decide +kernel
theorem dX10_bathes_99 : decode cX10_bathes 99 = .ok (.iload_n 1, 1) := by decide +kernel
theorem dX10_bathes_100 : decode cX10_bathes 100 = .ok (.iconst 4, 1) := by decide +kernel
theorem dX10_bathes_101 : decode cX10_bathes 101 = .ok (.aload_n 0, 1) := by decide +kernel
theorem dX10_bathes_102 : decode cX10_bathes 102 = .ok (.iload_n 1, 1) := by decide +kernel
theorem dX10_bathes_103 : decode cX10_bathes 103 = .ok (.iconst 4, 1) := by decide +kernel
theorem dX10_bathes_104 : decode cX10_bathes 104 = .ok (.invokevirtual 134, 3) := by decide +kernel
theorem dX10_bathes_107 : decode cX10_bathes 107 = .ok (.iconst 1, 1) := by decide +kernel
theorem dX10_bathes_108 : decode cX10_bathes 108 = .ok (.isub, 1) := by decide +kernel
theorem dX10_bathes_109 : decode cX10_bathes 109 = .ok (.invokevirtual 137, 3) := by decide +kernel
theorem dX10_bathes_112 : decode cX10_bathes 112 = .ok (.aload_n 0, 1) := by decide +kernel
theorem dX10_bathes_113 : decode cX10_bathes 113 = .ok (.iload_n 2, 1) := by decide +kernel
theorem dX10_bathes_114 : decode cX10_bathes 114 = .ok (.iconst 5, 1) := by decide +kernel
theorem dX10_bathes_115 : decode cX10_bathes 115 = .ok (.iconst 1, 1) := by decide +kernel
theorem dX10_bathes_116 : decode cX10_bathes 116 = .ok (.invokevirtual 112, 3) := by decide +kernel
theorem dX10_bathes_119 : decode cX10_bathes 119 = .ok (.aload_n 0, 1) := by decide +kernel
theorem dX10_bathes_120 : decode cX10_bathes 120 = .ok (.iload_n 2, 1) := by decide +kernel
theorem dX10_bathes_121 : decode cX10_bathes 121 = .ok (.bipush 6, 2) := by decide +kernel
theorem dX10_bathes_123 : decode cX10_bathes 123 = .ok (.aload_n 0, 1) := by decide +kernel
theorem dX10_bathes_124 : decode cX10_bathes 124 = .ok (.iload_n 2, 1) := by decide +kernel
theorem dX10_bathes_125 : decode cX10_bathes 125 = .ok (.bipush 6, 2) := by decide +kernel
theorem dX10_bathes_127 : decode cX10_bathes 127 = .ok (.invokevirtual 93, 3) := by decide +kernel
theorem dX10_bathes_130 : decode cX10_bathes 130 = .ok (.iconst 1, 1) := by decide +kernel
theorem dX10_bathes_131 : decode cX10_bathes 131 = .ok (.iadd, 1) := by decide +kernel
theorem dX10_bathes_132 : decode cX10_bathes 132 = .ok (.invokevirtual 112, 3) := by decide +kernel
theorem dX10_bathes_135 : decode cX10_bathes 135 = .ok (.aload_n 0, 1) := by decide +kernel
theorem dX10_bathes_136 : decode cX10_bathes 136 = .ok (.iload_n 2, 1) := by decide +kernel
theorem dX10_bathes_137 : decode cX10_bathes 137 = .ok (.bipush 6, 2) := by decide +kernel
theorem dX10_bathes_139 : decode cX10_bathes 139 = .ok (.invokevirtual 93, 3) := by decide +kernel
theorem dX10_bathes_142 : decode cX10_bathes 142 = .ok (.iconst 4, 1) := by decide +kernel
theorem dX10_bathes_143 : decode cX10_bathes 143 = .ok (.irem, 1) := by decide +kernel
theorem dX10_bathes_144 : decode cX10_bathes 144 = .ok (.ifCond .ne 30, 3) := by decide +kernel
theorem dX10_bathes_147 : decode cX10_bathes 147 = .ok (.aload_n 0, 1) := by decide +kernel
theorem dX10_bathes_148 : decode cX10_bathes 148 = .ok (.iload_n 2, 1) := by decide +kernel
theorem dX10_bathes_149 : decode cX10_bathes 149 = .ok (.iconst 2, 1) := by decide +kernel
theorem dX10_bathes_150 : decode cX10_bathes 150 = .ok (.aload_n 0, 1) := by decide +kernel
theorem dX10_bathes_151 : decode cX10_bathes 151 = .ok (.iload_n 2, 1) := by decide +kernel
theorem dX10_bathes_152 : decode cX10_bathes 152 = .ok (.iconst 2, 1) := by decide +kernel
theorem dX10_bathes_153 : decode cX10_bathes 153 = .ok (.invokevirtual 93, 3) := by decide +kernel
theorem dX10_bathes_156 : decode cX10_bathes 156 = .ok (.iconst 1, 1) := by decide +kernel
theorem dX10_bathes_157 : decode cX10_bathes 157 = .ok (.iload_n 2, 1) := by decide +kernel
theorem dX10_bathes_158 : decode cX10_bathes 158 = .ok (.aload_n 0, 1) := by decide +kernel
theorem dX10_bathes_159 : decode cX10_bathes 159 = .ok (.iload_n 2, 1) := by decide +kernel
theorem dX10_bathes_160 : decode cX10_bathes 160 = .ok (.bipush 6, 2) := by decide +kernel
theorem dX10_bathes_162 : decode cX10_bathes 162 = .ok (.invokevirtual 93, 3) := by decide +kernel
theorem dX10_bathes_165 : decode cX10_bathes 165 = .ok (.iadd, 1) := by decide +kernel
theorem dX10_bathes_166 : decode cX10_bathes 166 = .ok (.bipush 8, 2) := by decide +kernel
theorem dX10_bathes_168 : decode cX10_bathes 168 = .ok (.irem, 1) := by decide +kernel
theorem dX10_bathes_169 : decode cX10_bathes 169 = .ok (.ishl, 1) := by decide +kernel
theorem dX10_bathes_170 : decode cX10_bathes 170 = .ok (.ior, 1) := by decide +kernel
theorem dX10_bathes_171 : decode cX10_bathes 171 = .ok (.invokevirtual 112, 3) := by decide +kernel
theorem dX10_bathes_174 : decode cX10_bathes 174 = .ok (.return_, 1) := by decide +kernel
theorem dX10_goTent_0 : decode cX10_goTent 0 = .ok (.bipush 100, 2) := by decide +kernel
theorem dX10_goTent_2 : decode cX10_goTent 2 = .ok (.aload_n 0, 1) := by decide +kernel
theorem dX10_goTent_3 : decode cX10_goTent 3 = .ok (.iload_n 2, 1) := by decide +kernel
theorem dX10_goTent_4 : decode cX10_goTent 4 = .ok (.iconst 0, 1) := by decide +kernel
theorem dX10_goTent_5 : decode cX10_goTent 5 = .ok (.invokevirtual 93, 3) := by decide +kernel
theorem dX10_goTent_8 : decode cX10_goTent 8 = .ok (.imul, 1) := by decide +kernel
theorem dX10_goTent_9 : decode cX10_goTent 9 = .ok (.istore_n 3, 1) := by decide +kernel
theorem dX10_goTent_10 : decode cX10_goTent 10 = .ok (.iconst 0, 1) := by decide +kernel
theorem dX10_goTent_11 : decode cX10_goTent 11 = .ok (.aload_n 0, 1) := by decide +kernel
theorem dX10_goTent_12 : decode cX10_goTent 12 = .ok (.iload_n 2, 1) := by decide +kernel
theorem dX10_goTent_13 : decode cX10_goTent 13 = .ok (.iconst 3, 1) := by decide +kernel
theorem dX10_goTent_14 : decode cX10_goTent 14 = .ok (.invokevirtual 93, 3) := by decide +kernel
theorem dX10_goTent_17 : decode cX10_goTent 17 = .ok (.iconst 5, 1) := by decide +kernel
theorem dX10_goTent_18 : decode cX10_goTent 18 = .ok (.aload_n 0, 1) := by decide +kernel
theorem dX10_goTent_19 : decode cX10_goTent 19 = .ok (.iload_n 2, 1) := by decide +kernel
theorem dX10_goTent_20 : decode cX10_goTent 20 = .ok (.invokevirtual 125, 3) := by decide +kernel
theorem dX10_goTent_23 : decode cX10_goTent 23 = .ok (.imul, 1) := by decide +kernel
theorem dX10_goTent_24 : decode cX10_goTent 24 = .ok (.isub, 1) := by decide +kernel
theorem dX10_goTent_25 : decode cX10_goTent 25 = .ok (.invokestatic 175, 3) := by decide +kernel
theorem dX10_goTent_28 : decode cX10_goTent 28 = .ok (.istore 4, 2) := by decide +kernel
theorem dX10_goTent_30 : decode cX10_goTent 30 = .ok (.aload_n 0, 1) := by decide +kernel
theorem dX10_goTent_31 : decode cX10_goTent 31 = .ok (.iload_n 2, 1) := by decide +kernel
theorem dX10_goTent_32 : decode cX10_goTent 32 = .ok (.iconst 4, 1) := by decide +kernel
theorem dX10_goTent_33 : decode cX10_goTent 33 = .ok (.invokevirtual 93, 3) := by decide +kernel
theorem dX10_goTent_36 : decode cX10_goTent 36 = .ok (.istore 5, 2) := by decide +kernel
theorem dX10_goTent_38 : decode cX10_goTent 38 = .ok (.aload_n 0, 1) := by decide +kernel
theorem dX10_goTent_39 : decode cX10_goTent 39 = .ok (.iload_n 2, 1) := by decide +kernel
theorem dX10_goTent_40 : decode cX10_goTent 40 = .ok (.iconst 3, 1) := by decide +kernel
theorem dX10_goTent_41 : decode cX10_goTent 41 = .ok (.iload 4, 2) := by decide +kernel
theorem dX10_goTent_43 : decode cX10_goTent 43 = .ok (.invokevirtual 112, 3) := by decide +kernel
theorem dX10_goTent_46 : decode cX10_goTent 46 = .ok (.aload_n 0, 1) := by decide +kernel
theorem dX10_goTent_47 : decode cX10_goTent 47 = .ok (.iload_n 2, 1) := by decide +kernel
theorem dX10_goTent_48 : decode cX10_goTent 48 = .ok (.iconst 5, 1) := by decide +kernel
theorem dX10_goTent_49 : decode cX10_goTent 49 = .ok (.invokevirtual 93, 3) := by decide +kernel
theorem dX10_goTent_52 : decode cX10_goTent 52 = .ok (.iconst 1, 1) := by decide +kernel
theorem dX10_goTent_53 : decode cX10_goTent 53 = .ok (.if_icmp .ne 50, 3) := by decide +kernel
theorem dX10_goTent_56 : decode cX10_goTent 56 = .ok (.aload_n 0, 1) := by decide +kernel
theorem dX10_goTent_57 : decode cX10_goTent 57 = .ok (.iload_n 2, 1) := by decide +kernel
theorem dX10_goTent_58 : decode cX10_goTent 58 = .ok (.iconst 3, 1) := by decide +kernel
theorem dX10_goTent_59 : decode cX10_goTent 59 = .ok (.iconst 0, 1) := by decide +kernel
theorem dX10_goTent_60 : decode cX10_goTent 60 = .ok (.iload 4, 2) := by decide +kernel
theorem dX10_goTent_62 : decode cX10_goTent 62 = .ok (.bipush 20, 2) := by decide +kernel
theorem dX10_goTent_64 : decode cX10_goTent 64 = .ok (.isub, 1) := by decide +kernel
theorem dX10_goTent_65 : decode cX10_goTent 65 = .ok (.bipush 10, 2) := by decide +kernel
theorem dX10_goTent_67 : decode cX10_goTent 67 = .ok (.aload_n 0, 1) := by decide +kernel
theorem dX10_goTent_68 : decode cX10_goTent 68 = .ok (.iload_n 1, 1) := by decide +kernel
theorem dX10_goTent_69 : decode cX10_goTent 69 = .ok (.iconst 0, 1) := by decide +kernel
theorem dX10_goTent_70 : decode cX10_goTent 70 = .ok (.invokevirtual 134, 3) := by decide +kernel
theorem dX10_goTent_73 : decode cX10_goTent 73 = .ok (.imul, 1) := by decide +kernel
theorem dX10_goTent_74 : decode cX10_goTent 74 = .ok (.isub, 1) := by decide +kernel
theorem dX10_goTent_75 : decode cX10_goTent 75 = .ok (.invokestatic 175, 3) := by decide +kernel
theorem dX10_goTent_78 : decode cX10_goTent 78 = .ok (.invokevirtual 112, 3) := by decide +kernel
theorem dX10_goTent_81 : decode cX10_goTent 81 = .ok (.aload_n 0, 1) := by decide +kernel
theorem dX10_goTent_82 : decode cX10_goTent 82 = .ok (.iload_n 2, 1) := by decide +kernel
theorem dX10_goTent_83 : decode cX10_goTent 83 = .ok (.iconst 5, 1) := by decide +kernel
theorem dX10_goTent_84 : decode cX10_goTent 84 = .ok (.aload_n 0, 1) := by decide +kernel
theorem dX10_goTent_85 : decode cX10_goTent 85 = .ok (.iload_n 2, 1) := by decide +kernel
theorem dX10_goTent_86 : decode cX10_goTent 86 = .ok (.iconst 3, 1) := by decide +kernel
theorem dX10_goTent_87 : decode cX10_goTent 87 = .ok (.invokevirtual 93, 3) := by decide +kernel
theorem dX10_goTent_90 : decode cX10_goTent 90 = .ok (.ifCond .ne 7, 3) := by decide +kernel
theorem dX10_goTent_93 : decode cX10_goTent 93 = .ok (.iconst 0, 1) := by decide +kernel
theorem dX10_goTent_94 : decode cX10_goTent 94 = .ok (.goto 4, 3) := by decide +kernel
theorem dX10_goTent_97 : decode cX10_goTent 97 = .ok (.iconst 1, 1) := by decide +kernel
theorem dX10_goTent_98 : decode cX10_goTent 98 = .ok (.invokevirtual 112, 3) := by decide +kernel
theorem dX10_goTent_101 : decode cX10_goTent 101 = .ok (.iconst 0, 1) := by decide +kernel
theorem dX10_goTent_102 : decode cX10_goTent 102 = .ok (.ireturn, 1) := by decide +kernel
theorem dX10_goTent_103 : decode cX10_goTent 103 = .ok (.iload 4, 2) := by decide +kernel
theorem dX10_goTent_105 : decode cX10_goTent 105 = .ok (.iload_n 3, 1) := by decide +kernel
theorem dX10_goTent_106 : decode cX10_goTent 106 = .ok (.if_icmp .ge 37, 3) := by decide +kernel
theorem dX10_goTent_109 : decode cX10_goTent 109 = .ok (.aload_n 0, 1) := by decide +kernel
theorem dX10_goTent_110 : decode cX10_goTent 110 = .ok (.iload_n 2, 1) := by decide +kernel
theorem dX10_goTent_111 : decode cX10_goTent 111 = .ok (.iconst 4, 1) := by decide +kernel
theorem dX10_goTent_112 : decode cX10_goTent 112 = .ok (.iload 4, 2) := by decide +kernel
theorem dX10_goTent_114 : decode cX10_goTent 114 = .ok (.ifCond .ne 8, 3) := by decide +kernel
theorem dX10_goTent_117 : decode cX10_goTent 117 = .ok (.bipush 10, 2) := by decide +kernel
theorem dX10_goTent_119 : decode cX10_goTent 119 = .ok (.goto 12, 3) := by decide +kernel
theorem dX10_goTent_122 : decode cX10_goTent 122 = .ok (.bipush 10, 2) := by decide +kernel
theorem dX10_goTent_124 : decode cX10_goTent 124 = .ok (.iload 5, 2) := by decide +kernel
theorem dX10_goTent_126 : decode cX10_goTent 126 = .ok (.iconst 5, 1) := by decide +kernel
theorem dX10_goTent_127 : decode cX10_goTent 127 = .ok (.isub, 1) := by decide +kernel
theorem dX10_goTent_128 : decode cX10_goTent 128 = .ok (.invokestatic 175, 3) := by decide +kernel
theorem dX10_goTent_131 : decode cX10_goTent 131 = .ok (.invokevirtual 112, 3) := by decide +kernel
theorem dX10_goTent_134 : decode cX10_goTent 134 = .ok (.aload_n 0, 1) := by decide +kernel
theorem dX10_goTent_135 : decode cX10_goTent 135 = .ok (.iload_n 2, 1) := by decide +kernel
theorem dX10_goTent_136 : decode cX10_goTent 136 = .ok (.iconst 3, 1) := by decide +kernel
theorem dX10_goTent_137 : decode cX10_goTent 137 = .ok (.iload_n 3, 1) := by decide +kernel
theorem dX10_goTent_138 : decode cX10_goTent 138 = .ok (.invokevirtual 112, 3) := by decide +kernel
theorem dX10_goTent_141 : decode cX10_goTent 141 = .ok (.iconst 0, 1) := by decide +kernel
theorem dX10_goTent_142 : decode cX10_goTent 142 = .ok (.ireturn, 1) := by decide +kernel
theorem dX10_goTent_143 : decode cX10_goTent 143 = .ok (.iload 5, 2) := by decide +kernel
theorem dX10_goTent_145 : decode cX10_goTent 145 = .ok (.bipush 38, 2) := by decide +kernel
theorem dX10_goTent_147 : decode cX10_goTent 147 = .ok (.if_icmp .lt 30, 3) := by decide +kernel
theorem dX10_goTent_150 : decode cX10_goTent 150 = .ok (.aload_n 0, 1) := by decide +kernel
theorem dX10_goTent_151 : decode cX10_goTent 151 = .ok (.iload_n 1, 1) := by decide +kernel
theorem dX10_goTent_152 : decode cX10_goTent 152 = .ok (.iconst 4, 1) := by decide +kernel
theorem dX10_goTent_153 : decode cX10_goTent 153 = .ok (.invokevirtual 134, 3) := by decide +kernel
theorem dX10_goTent_156 : decode cX10_goTent 156 = .ok (.ifCond .le 21, 3) := by decide +kernel
theorem dX10_goTent_159 : decode cX10_goTent 159 = .ok (.aload_n 0, 1) := by decide +kernel
theorem dX10_goTent_160 : decode cX10_goTent 160 = .ok (.getfield 9, 3) := by decide +kernel
theorem dX10_goTent_163 : decode cX10_goTent 163 = .ok (.bipush 6, 2) := by decide +kernel
theorem dX10_goTent_165 : decode cX10_goTent 165 = .ok (.iaload, 1) := by decide +kernel
theorem dX10_goTent_166 : decode cX10_goTent 166 = .ok (.ifCond .le 11, 3) := by decide +kernel
theorem dX10_goTent_169 : decode cX10_goTent 169 = .ok (.aload_n 0, 1) := by decide +kernel
theorem dX10_goTent_170 : decode cX10_goTent 170 = .ok (.iload_n 1, 1) := by decide +kernel
theorem dX10_goTent_171 : decode cX10_goTent 171 = .ok (.iload_n 2, 1) := by decide +kernel
theorem dX10_goTent_172 : decode cX10_goTent 172 = .ok (.invokevirtual 178, 3) := by decide +kernel
theorem dX10_goTent_175 : decode cX10_goTent 175 = .ok (.iconst 1, 1) := by decide +kernel
theorem dX10_goTent_176 : decode cX10_goTent 176 = .ok (.ireturn, 1) := by decide +kernel
theorem dX10_goTent_177 : decode cX10_goTent 177 = .ok (.aload_n 0, 1) := by decide +kernel
theorem dX10_goTent_178 : decode cX10_goTent 178 = .ok (.iload_n 1, 1) := by decide +kernel
theorem dX10_goTent_179 : decode cX10_goTent 179 = .ok (.iconst 2, 1) := by decide +kernel
theorem dX10_goTent_180 : decode cX10_goTent 180 = .ok (.invokevirtual 134, 3) := by decide +kernel
theorem dX10_goTent_183 : decode cX10_goTent 183 = .ok (.istore 6, 2) := by decide +kernel
theorem dX10_goTent_185 : decode cX10_goTent 185 = .ok (.iload 6, 2) := by decide +kernel
theorem dX10_goTent_187 : decode cX10_goTent 187 = .ok (.ifCond .lt 61, 3) := by decide +kernel
theorem dX10_goTent_190 : decode cX10_goTent 190 = .ok (.aload_n 0, 1) := by decide +kernel
theorem dX10_goTent_191 : decode cX10_goTent 191 = .ok (.iload 6, 2) := by decide +kernel
theorem dX10_goTent_193 : decode cX10_goTent 193 = .ok (.invokevirtual 152, 3) := by decide +kernel
theorem dX10_goTent_196 : decode cX10_goTent 196 = .ok (.ifCond .le 52, 3) := by decide +kernel
theorem dX10_goTent_199 : decode cX10_goTent 199 = .ok (.iload 5, 2) := by decide +kernel
theorem dX10_goTent_201 : decode cX10_goTent 201 = .ok (.bipush 60, 2) := by decide +kernel
theorem dX10_goTent_203 : decode cX10_goTent 203 = .ok (.if_icmp .ge 45, 3) := by decide +kernel
theorem dX10_goTent_206 : decode cX10_goTent 206 = .ok (.aload_n 0, 1) := by decide +kernel
theorem dX10_goTent_207 : decode cX10_goTent 207 = .ok (.getfield 9, 3) := by decide +kernel
theorem dX10_goTent_210 : decode cX10_goTent 210 = .ok (.bipush 121, 2) := by decide +kernel
theorem dX10_goTent_212 : decode cX10_goTent 212 = .ok (.iconst 2, 1) := by decide +kernel
theorem dX10_goTent_213 : decode cX10_goTent 213 = .ok (.iload 6, 2) := by decide +kernel
theorem dX10_goTent_215 : decode cX10_goTent 215 = .ok (.imul, 1) := by decide +kernel
theorem dX10_goTent_216 : decode cX10_goTent 216 = .ok (.iadd, 1) := by decide +kernel
theorem dX10_goTent_217 : decode cX10_goTent 217 = .ok (.dup2, 1) := by decide +kernel
theorem dX10_goTent_218 : decode cX10_goTent 218 = .ok (.iaload, 1) := by decide +kernel
theorem dX10_goTent_219 : decode cX10_goTent 219 = .ok (.iconst 1, 1) := by decide +kernel
theorem dX10_goTent_220 : decode cX10_goTent 220 = .ok (.isub, 1) := by decide +kernel
theorem dX10_goTent_221 : decode cX10_goTent 221 = .ok (.iastore, 1) := by decide +kernel
theorem dX10_goTent_222 : decode cX10_goTent 222 = .ok (.aload_n 0, 1) := by decide +kernel
theorem dX10_goTent_223 : decode cX10_goTent 223 = .ok (.iload_n 2, 1) := by decide +kernel
theorem dX10_goTent_224 : decode cX10_goTent 224 = .ok (.iconst 4, 1) := by decide +kernel
theorem dX10_goTent_225 : decode cX10_goTent 225 = .ok (.bipush 60, 2) := by decide +kernel
theorem dX10_goTent_227 : decode cX10_goTent 227 = .ok (.iload 5, 2) := by decide +kernel
theorem dX10_goTent_229 : decode cX10_goTent 229 = .ok (.bipush 12, 2) := by decide +kernel
theorem dX10_goTent_231 : decode cX10_goTent 231 = .ok (.aload_n 0, 1) := by decide +kernel
theorem dX10_goTent_232 : decode cX10_goTent 232 = .ok (.iload_n 2, 1) := by decide +kernel
theorem dX10_goTent_233 : decode cX10_goTent 233 = .ok (.iconst 0, 1) := by decide +kernel
theorem dX10_goTent_234 : decode cX10_goTent 234 = .ok (.invokevirtual 93, 3) := by decide +kernel
theorem dX10_goTent_237 : decode cX10_goTent 237 = .ok (.idiv, 1) := by decide +kernel
theorem dX10_goTent_238 : decode cX10_goTent 238 = .ok (.iadd, 1) := by decide +kernel
theorem dX10_goTent_239 : decode cX10_goTent 239 = .ok (.invokestatic 164, 3) := by decide +kernel
theorem dX10_goTent_242 : decode cX10_goTent 242 = .ok (.invokevirtual 112, 3) := by decide +kernel
theorem dX10_goTent_245 : decode cX10_goTent 245 = .ok (.goto 18, 3) := by decide +kernel
theorem dX10_goTent_248 : decode cX10_goTent 248 = .ok (.aload_n 0, 1) := by decide +kernel
theorem dX10_goTent_249 : decode cX10_goTent 249 = .ok (.iload_n 2, 1) := by decide +kernel
theorem dX10_goTent_250 : decode cX10_goTent 250 = .ok (.iconst 4, 1) := by decide +kernel
theorem dX10_goTent_251 : decode cX10_goTent 251 = .ok (.bipush 10, 2) := by decide +kernel
theorem dX10_goTent_253 : decode cX10_goTent 253 = .ok (.iload 5, 2) := by decide +kernel
theorem dX10_goTent_255 : decode cX10_goTent 255 = .ok (.iconst 1, 1) := by decide +kernel
theorem dX10_goTent_256 : decode cX10_goTent 256 = .ok (.isub, 1) := by decide +kernel
theorem dX10_goTent_257 : decode cX10_goTent 257 = .ok (.invokestatic 175, 3) := by decide +kernel
theorem dX10_goTent_260 : decode cX10_goTent 260 = .ok (.invokevirtual 112, 3) := by decide +kernel
theorem dX10_goTent_263 : decode cX10_goTent 263 = .ok (.iconst 0, 1) := by decide +kernel
theorem dX10_goTent_264 : decode cX10_goTent 264 = .ok (.ireturn, 1) := by decide +kernel
theorem dX10_goHour_0 : decode cX10_goHour 0 = .ok (.iconst 0, 1) := by decide +kernel
theorem dX10_goHour_1 : decode cX10_goHour 1 = .ok (.istore_n 1, 1) := by decide +kernel
theorem dX10_goHour_2 : decode cX10_goHour 2 = .ok (.aload_n 0, 1) := by decide +kernel
theorem dX10_goHour_3 : decode cX10_goHour 3 = .ok (.getfield 9, 3) := by decide +kernel
theorem dX10_goHour_6 : decode cX10_goHour 6 = .ok (.iconst 0, 1) := by decide +kernel
theorem dX10_goHour_7 : decode cX10_goHour 7 = .ok (.dup2, 1) := by decide +kernel
theorem dX10_goHour_8 : decode cX10_goHour 8 = .ok (.iaload, 1) := by decide +kernel
theorem dX10_goHour_9 : decode cX10_goHour 9 = .ok (.iconst 1, 1) := by decide +kernel
theorem dX10_goHour_10 : decode cX10_goHour 10 = .ok (.iadd, 1) := by decide +kernel
theorem dX10_goHour_11 : decode cX10_goHour 11 = .ok (.iastore, 1) := by decide +kernel
theorem dX10_goHour_12 : decode cX10_goHour 12 = .ok (.iconst 0, 1) := by decide +kernel
theorem dX10_goHour_13 : decode cX10_goHour 13 = .ok (.istore_n 2, 1) := by decide +kernel
theorem dX10_goHour_14 : decode cX10_goHour 14 = .ok (.iload_n 2, 1) := by decide +kernel
theorem dX10_goHour_15 : decode cX10_goHour 15 = .ok (.aload_n 0, 1) := by decide +kernel
theorem dX10_goHour_16 : decode cX10_goHour 16 = .ok (.getfield 9, 3) := by decide +kernel
theorem dX10_goHour_19 : decode cX10_goHour 19 = .ok (.iconst 2, 1) := by decide +kernel
theorem dX10_goHour_20 : decode cX10_goHour 20 = .ok (.iaload, 1) := by decide +kernel
theorem dX10_goHour_21 : decode cX10_goHour 21 = .ok (.if_icmp .ge 33, 3) := by decide +kernel
theorem dX10_goHour_24 : decode cX10_goHour 24 = .ok (.aload_n 0, 1) := by decide +kernel
theorem dX10_goHour_25 : decode cX10_goHour 25 = .ok (.iload_n 2, 1) := by decide +kernel
theorem dX10_goHour_26 : decode cX10_goHour 26 = .ok (.iconst 1, 1) := by decide +kernel
theorem dX10_goHour_27 : decode cX10_goHour 27 = .ok (.invokevirtual 134, 3) := by decide +kernel
theorem dX10_goHour_30 : decode cX10_goHour 30 = .ok (.istore_n 3, 1) := by decide +kernel
theorem dX10_goHour_31 : decode cX10_goHour 31 = .ok (.iload_n 1, 1) := by decide +kernel
theorem dX10_goHour_32 : decode cX10_goHour 32 = .ok (.iload_n 3, 1) := by decide +kernel
theorem dX10_goHour_33 : decode cX10_goHour 33 = .ok (.ifCond .ge 7, 3) := by decide +kernel
theorem dX10_goHour_36 : decode cX10_goHour 36 = .ok (.iconst 0, 1) := by decide +kernel
theorem dX10_goHour_37 : decode cX10_goHour 37 = .ok (.goto 9, 3) := by decide +kernel
theorem dX10_goHour_40 : decode cX10_goHour 40 = .ok (.aload_n 0, 1) := by decide +kernel
theorem dX10_goHour_41 : decode cX10_goHour 41 = .ok (.iload_n 2, 1) := by decide +kernel
theorem dX10_goHour_42 : decode cX10_goHour 42 = .ok (.iload_n 3, 1) := by decide +kernel
theorem dX10_goHour_43 : decode cX10_goHour 43 = .ok (.invokevirtual 182, 3) := by decide +kernel
theorem dX10_goHour_46 : decode cX10_goHour 46 = .ok (.iadd, 1) := by decide +kernel
theorem dX10_goHour_47 : decode cX10_goHour 47 = .ok (.istore_n 1, 1) := by decide +kernel
theorem dX10_goHour_48 : decode cX10_goHour 48 = .ok (.iinc 2 1, 3) := by decide +kernel
theorem dX10_goHour_51 : decode cX10_goHour 51 = .ok (.goto (-37), 3) := by decide +kernel
theorem dX10_goHour_54 : decode cX10_goHour 54 = .ok (.iload_n 1, 1) := by decide +kernel
theorem dX10_goHour_55 : decode cX10_goHour 55 = .ok (.ireturn, 1) := by decide +kernel
theorem dX10_doPass_0 : decode cX10_doPass 0 = .ok (.iload_n 1, 1) := by decide +kernel
theorem dX10_doPass_1 : decode cX10_doPass 1 = .ok (.iconst 1, 1) := by decide +kernel
theorem dX10_doPass_2 : decode cX10_doPass 2 = .ok (.bipush 48, 2) := by decide +kernel
theorem dX10_doPass_4 : decode cX10_doPass 4 = .ok (.invokestatic 85, 3) := by decide +kernel
theorem dX10_doPass_7 : decode cX10_doPass 7 = .ok (.ifCond .ne 9, 3) := by decide +kernel
theorem dX10_doPass_10 : decode cX10_doPass 10 = .ok (.aload_n 0, 1) := by decide +kernel
theorem dX10_doPass_11 : decode cX10_doPass 11 = .ok (.iconst 1, 1) := by decide +kernel
theorem dX10_doPass_12 : decode cX10_doPass 12 = .ok (.invokevirtual 104, 3) := by decide +kernel
theorem dX10_doPass_15 : decode cX10_doPass 15 = .ok (.ireturn, 1) := by decide +kernel
theorem dX10_doPass_16 : decode cX10_doPass 16 = .ok (.iconst 0, 1) := by decide +kernel
theorem dX10_doPass_17 : decode cX10_doPass 17 = .ok (.istore_n 2, 1) := by decide +kernel
theorem dX10_doPass_18 : decode cX10_doPass 18 = .ok (.iconst 0, 1) := by decide +kernel
theorem dX10_doPass_19 : decode cX10_doPass 19 = .ok (.istore_n 3, 1) := by decide +kernel
theorem dX10_doPass_20 : decode cX10_doPass 20 = .ok (.iload_n 3, 1) := by decide +kernel
theorem dX10_doPass_21 : decode cX10_doPass 21 = .ok (.iload_n 1, 1) := by decide +kernel
theorem dX10_doPass_22 : decode cX10_doPass 22 = .ok (.if_icmp .ge 16, 3) := by decide +kernel
theorem dX10_doPass_25 : decode cX10_doPass 25 = .ok (.iload_n 2, 1) := by decide +kernel
theorem dX10_doPass_26 : decode cX10_doPass 26 = .ok (.aload_n 0, 1) := by decide +kernel
theorem dX10_doPass_27 : decode cX10_doPass 27 = .ok (.invokevirtual 185, 3) := by decide +kernel
theorem dX10_doPass_30 : decode cX10_doPass 30 = .ok (.iadd, 1) := by decide +kernel
theorem dX10_doPass_31 : decode cX10_doPass 31 = .ok (.istore_n 2, 1) := by decide +kernel
theorem dX10_doPass_32 : decode cX10_doPass 32 = .ok (.iinc 3 1, 3) := by decide +kernel
theorem dX10_doPass_35 : decode cX10_doPass 35 = .ok (.goto (-15), 3) := by decide +kernel
theorem dX10_doPass_38 : decode cX10_doPass 38 = .ok (.iload_n 2, 1) := by decide +kernel
theorem dX10_doPass_39 : decode cX10_doPass 39 = .ok (.ireturn, 1) := by decide +kernel
theorem dX10_pass_0 : decode cX10_pass 0 = .ok (.aload_n 0, 1) := by decide +kernel
theorem dX10_pass_1 : decode cX10_pass 1 = .ok (.invokevirtual 101, 3) := by decide +kernel
theorem dX10_pass_4 : decode cX10_pass 4 = .ok (.aload_n 0, 1) := by decide +kernel
theorem dX10_pass_5 : decode cX10_pass 5 = .ok (.aload_n 0, 1) := by decide +kernel
theorem dX10_pass_6 : decode cX10_pass 6 = .ok (.iload_n 1, 1) := by decide +kernel
theorem dX10_pass_7 : decode cX10_pass 7 = .ok (.invokevirtual 189, 3) := by decide +kernel
theorem dX10_pass_10 : decode cX10_pass 10 = .ok (.invokevirtual 116, 3) := by decide +kernel
theorem dX10_pass_13 : decode cX10_pass 13 = .ok (.ireturn, 1) := by decide +kernel
theorem dX10_heatsIn_0 : decode cX10_heatsIn 0 = .ok (.aload_n 0, 1) := by decide +kernel
theorem dX10_heatsIn_1 : decode cX10_heatsIn 1 = .ok (.iload_n 1, 1) := by decide +kernel
theorem dX10_heatsIn_2 : decode cX10_heatsIn 2 = .ok (.iconst 1, 1) := by decide +kernel
theorem dX10_heatsIn_3 : decode cX10_heatsIn 3 = .ok (.iconst 3, 1) := by decide +kernel
theorem dX10_heatsIn_4 : decode cX10_heatsIn 4 = .ok (.invokestatic 85, 3) := by decide +kernel
theorem dX10_heatsIn_7 : decode cX10_heatsIn 7 = .ok (.ifCond .eq 18, 3) := by decide +kernel
theorem dX10_heatsIn_10 : decode cX10_heatsIn 10 = .ok (.iload_n 2, 1) := by decide +kernel
theorem dX10_heatsIn_11 : decode cX10_heatsIn 11 = .ok (.bipush 10, 2) := by decide +kernel
theorem dX10_heatsIn_13 : decode cX10_heatsIn 13 = .ok (.bipush 60, 2) := by decide +kernel
theorem dX10_heatsIn_15 : decode cX10_heatsIn 15 = .ok (.invokestatic 85, 3) := by decide +kernel
theorem dX10_heatsIn_18 : decode cX10_heatsIn 18 = .ok (.ifCond .eq 7, 3) := by decide +kernel
theorem dX10_heatsIn_21 : decode cX10_heatsIn 21 = .ok (.iconst 0, 1) := by decide +kernel
theorem dX10_heatsIn_22 : decode cX10_heatsIn 22 = .ok (.goto 4, 3) := by decide +kernel
theorem dX10_heatsIn_25 : decode cX10_heatsIn 25 = .ok (.iconst 1, 1) := by decide +kernel
theorem dX10_heatsIn_26 : decode cX10_heatsIn 26 = .ok (.putfield 63, 3) := by decide +kernel
theorem dX10_heatsIn_29 : decode cX10_heatsIn 29 = .ok (.aload_n 0, 1) := by decide +kernel
theorem dX10_heatsIn_30 : decode cX10_heatsIn 30 = .ok (.getfield 63, 3) := by decide +kernel
theorem dX10_heatsIn_33 : decode cX10_heatsIn 33 = .ok (.ifCond .le 5, 3) := by decide +kernel
theorem dX10_heatsIn_36 : decode cX10_heatsIn 36 = .ok (.iconst 0, 1) := by decide +kernel
theorem dX10_heatsIn_37 : decode cX10_heatsIn 37 = .ok (.ireturn, 1) := by decide +kernel
theorem dX10_heatsIn_38 : decode cX10_heatsIn 38 = .ok (.iconst 0, 1) := by decide +kernel
theorem dX10_heatsIn_39 : decode cX10_heatsIn 39 = .ok (.istore_n 3, 1) := by decide +kernel
theorem dX10_heatsIn_40 : decode cX10_heatsIn 40 = .ok (.iload_n 2, 1) := by decide +kernel
theorem dX10_heatsIn_41 : decode cX10_heatsIn 41 = .ok (.istore 4, 2) := by decide +kernel
theorem dX10_heatsIn_43 : decode cX10_heatsIn 43 = .ok (.iload 4, 2) := by decide +kernel
theorem dX10_heatsIn_45 : decode cX10_heatsIn 45 = .ok (.bipush 38, 2) := by decide +kernel
theorem dX10_heatsIn_47 : decode cX10_heatsIn 47 = .ok (.if_icmp .ge 18, 3) := by decide +kernel
theorem dX10_heatsIn_50 : decode cX10_heatsIn 50 = .ok (.iinc 3 1, 3) := by decide +kernel
theorem dX10_heatsIn_53 : decode cX10_heatsIn 53 = .ok (.iload 4, 2) := by decide +kernel
theorem dX10_heatsIn_55 : decode cX10_heatsIn 55 = .ok (.bipush 12, 2) := by decide +kernel
theorem dX10_heatsIn_57 : decode cX10_heatsIn 57 = .ok (.iload_n 1, 1) := by decide +kernel
theorem dX10_heatsIn_58 : decode cX10_heatsIn 58 = .ok (.idiv, 1) := by decide +kernel
theorem dX10_heatsIn_59 : decode cX10_heatsIn 59 = .ok (.iadd, 1) := by decide +kernel
theorem dX10_heatsIn_60 : decode cX10_heatsIn 60 = .ok (.istore 4, 2) := by decide +kernel
theorem dX10_heatsIn_62 : decode cX10_heatsIn 62 = .ok (.goto (-19), 3) := by decide +kernel
theorem dX10_heatsIn_65 : decode cX10_heatsIn 65 = .ok (.iload_n 3, 1) := by decide +kernel
theorem dX10_heatsIn_66 : decode cX10_heatsIn 66 = .ok (.ireturn, 1) := by decide +kernel
theorem dX10_heatsAgain_0 : decode cX10_heatsAgain 0 = .ok (.aload_n 0, 1) := by decide +kernel
theorem dX10_heatsAgain_1 : decode cX10_heatsAgain 1 = .ok (.iload_n 1, 1) := by decide +kernel
theorem dX10_heatsAgain_2 : decode cX10_heatsAgain 2 = .ok (.iload_n 2, 1) := by decide +kernel
theorem dX10_heatsAgain_3 : decode cX10_heatsAgain 3 = .ok (.invokevirtual 192, 3) := by decide +kernel
theorem dX10_heatsAgain_6 : decode cX10_heatsAgain 6 = .ok (.ireturn, 1) := by decide +kernel
theorem dX10_waits_0 : decode cX10_waits 0 = .ok (.iconst 0, 1) := by decide +kernel
theorem dX10_waits_1 : decode cX10_waits 1 = .ok (.istore_n 2, 1) := by decide +kernel
theorem dX10_waits_2 : decode cX10_waits 2 = .ok (.iload_n 2, 1) := by decide +kernel
theorem dX10_waits_3 : decode cX10_waits 3 = .ok (.aload_n 0, 1) := by decide +kernel
theorem dX10_waits_4 : decode cX10_waits 4 = .ok (.getfield 9, 3) := by decide +kernel
theorem dX10_waits_7 : decode cX10_waits 7 = .ok (.iconst 2, 1) := by decide +kernel
theorem dX10_waits_8 : decode cX10_waits 8 = .ok (.iaload, 1) := by decide +kernel
theorem dX10_waits_9 : decode cX10_waits 9 = .ok (.if_icmp .ge 41, 3) := by decide +kernel
theorem dX10_waits_12 : decode cX10_waits 12 = .ok (.iconst 0, 1) := by decide +kernel
theorem dX10_waits_13 : decode cX10_waits 13 = .ok (.istore_n 3, 1) := by decide +kernel
theorem dX10_waits_14 : decode cX10_waits 14 = .ok (.iload_n 3, 1) := by decide +kernel
theorem dX10_waits_15 : decode cX10_waits 15 = .ok (.aload_n 0, 1) := by decide +kernel
theorem dX10_waits_16 : decode cX10_waits 16 = .ok (.iload_n 2, 1) := by decide +kernel
theorem dX10_waits_17 : decode cX10_waits 17 = .ok (.iconst 4, 1) := by decide +kernel
theorem dX10_waits_18 : decode cX10_waits 18 = .ok (.invokevirtual 134, 3) := by decide +kernel
theorem dX10_waits_21 : decode cX10_waits 21 = .ok (.if_icmp .ge 23, 3) := by decide +kernel
theorem dX10_waits_24 : decode cX10_waits 24 = .ok (.aload_n 0, 1) := by decide +kernel
theorem dX10_waits_25 : decode cX10_waits 25 = .ok (.iload_n 2, 1) := by decide +kernel
theorem dX10_waits_26 : decode cX10_waits 26 = .ok (.iconst 5, 1) := by decide +kernel
theorem dX10_waits_27 : decode cX10_waits 27 = .ok (.iload_n 3, 1) := by decide +kernel
theorem dX10_waits_28 : decode cX10_waits 28 = .ok (.iadd, 1) := by decide +kernel
theorem dX10_waits_29 : decode cX10_waits 29 = .ok (.invokevirtual 134, 3) := by decide +kernel
theorem dX10_waits_32 : decode cX10_waits 32 = .ok (.iload_n 1, 1) := by decide +kernel
theorem dX10_waits_33 : decode cX10_waits 33 = .ok (.if_icmp .ne 5, 3) := by decide +kernel
theorem dX10_waits_36 : decode cX10_waits 36 = .ok (.iconst 1, 1) := by decide +kernel
theorem dX10_waits_37 : decode cX10_waits 37 = .ok (.ireturn, 1) := by decide +kernel
theorem dX10_waits_38 : decode cX10_waits 38 = .ok (.iinc 3 1, 3) := by decide +kernel
theorem dX10_waits_41 : decode cX10_waits 41 = .ok (.goto (-27), 3) := by decide +kernel
theorem dX10_waits_44 : decode cX10_waits 44 = .ok (.iinc 2 1, 3) := by decide +kernel
theorem dX10_waits_47 : decode cX10_waits 47 = .ok (.goto (-45), 3) := by decide +kernel
theorem dX10_waits_50 : decode cX10_waits 50 = .ok (.iconst 0, 1) := by decide +kernel
theorem dX10_waits_51 : decode cX10_waits 51 = .ok (.ireturn, 1) := by decide +kernel
theorem dX10_bathesIn_0 : decode cX10_bathesIn 0 = .ok (.aload_n 0, 1) := by decide +kernel
theorem dX10_bathesIn_1 : decode cX10_bathesIn 1 = .ok (.getfield 9, 3) := by decide +kernel
theorem dX10_bathesIn_4 : decode cX10_bathesIn 4 = .ok (.iconst 0, 1) := by decide +kernel
theorem dX10_bathesIn_5 : decode cX10_bathesIn 5 = .ok (.aload_n 0, 1) := by decide +kernel
theorem dX10_bathesIn_6 : decode cX10_bathesIn 6 = .ok (.getfield 16, 3) := by decide +kernel
theorem dX10_bathesIn_9 : decode cX10_bathesIn 9 = .ok (.iconst 0, 1) := by decide +kernel
theorem dX10_bathesIn_10 : decode cX10_bathesIn 10 = .ok (.sipush 129, 3) := by decide +kernel
theorem dX10_bathesIn_13 : decode cX10_bathesIn 13 = .ok (.invokestatic 66, 3) := by decide +kernel
theorem dX10_bathesIn_16 : decode cX10_bathesIn 16 = .ok (.iconst 0, 1) := by decide +kernel
theorem dX10_bathesIn_17 : decode cX10_bathesIn 17 = .ok (.istore_n 2, 1) := by decide +kernel
theorem dX10_bathesIn_18 : decode cX10_bathesIn 18 = .ok (.aload_n 0, 1) := by decide +kernel
theorem dX10_bathesIn_19 : decode cX10_bathesIn 19 = .ok (.iload_n 1, 1) := by decide +kernel
theorem dX10_bathesIn_20 : decode cX10_bathesIn 20 = .ok (.invokevirtual 195, 3) := by decide +kernel
theorem dX10_bathesIn_23 : decode cX10_bathesIn 23 = .ok (.istore_n 3, 1) := by decide +kernel
theorem dX10_bathesIn_24 : decode cX10_bathesIn 24 = .ok (.aload_n 0, 1) := by decide +kernel
theorem dX10_bathesIn_25 : decode cX10_bathesIn 25 = .ok (.iload_n 1, 1) := by decide +kernel
theorem dX10_bathesIn_26 : decode cX10_bathesIn 26 = .ok (.invokevirtual 195, 3) := by decide +kernel
theorem dX10_bathesIn_29 : decode cX10_bathesIn 29 = .ok (.ifCond .eq 21, 3) := by decide +kernel
theorem dX10_bathesIn_32 : decode cX10_bathesIn 32 = .ok (.iload_n 2, 1) := by decide +kernel
theorem dX10_bathesIn_33 : decode cX10_bathesIn 33 = .ok (.bipush 60, 2) := by decide +kernel
theorem dX10_bathesIn_35 : decode cX10_bathesIn 35 = .ok (.if_icmp .ge 15, 3) := by decide +kernel
theorem dX10_bathesIn_38 : decode cX10_bathesIn 38 = .ok (.aload_n 0, 1) := by decide +kernel
theorem dX10_bathesIn_39 : decode cX10_bathesIn 39 = .ok (.invokevirtual 185, 3) := by decide +kernel
theorem dX10_bathesIn_42 : decode cX10_bathesIn 42 = .ok (.istore 4, 2) := by decide +kernel
theorem dX10_bathesIn_44 : decode cX10_bathesIn 44 = .ok (.iinc 2 1, 3) := by decide +kernel
theorem dX10_bathesIn_47 : decode cX10_bathesIn 47 = .ok (.goto (-23), 3) := by decide +kernel
theorem dX10_bathesIn_50 : decode cX10_bathesIn 50 = .ok (.aload_n 0, 1) := by decide +kernel
theorem dX10_bathesIn_51 : decode cX10_bathesIn 51 = .ok (.iload_n 3, 1) := by decide +kernel
theorem dX10_bathesIn_52 : decode cX10_bathesIn 52 = .ok (.ifCond .eq 11, 3) := by decide +kernel
theorem dX10_bathesIn_55 : decode cX10_bathesIn 55 = .ok (.aload_n 0, 1) := by decide +kernel
theorem dX10_bathesIn_56 : decode cX10_bathesIn 56 = .ok (.iload_n 1, 1) := by decide +kernel
theorem dX10_bathesIn_57 : decode cX10_bathesIn 57 = .ok (.invokevirtual 195, 3) := by decide +kernel
theorem dX10_bathesIn_60 : decode cX10_bathesIn 60 = .ok (.ifCond .eq 7, 3) := by decide +kernel
theorem dX10_bathesIn_63 : decode cX10_bathesIn 63 = .ok (.iconst 1, 1) := by decide +kernel
theorem dX10_bathesIn_64 : decode cX10_bathesIn 64 = .ok (.goto 4, 3) := by decide +kernel
theorem dX10_bathesIn_67 : decode cX10_bathesIn 67 = .ok (.iconst 0, 1) := by decide +kernel
theorem dX10_bathesIn_68 : decode cX10_bathesIn 68 = .ok (.putfield 63, 3) := by decide +kernel
theorem dX10_bathesIn_71 : decode cX10_bathesIn 71 = .ok (.aload_n 0, 1) := by decide +kernel
theorem dX10_bathesIn_72 : decode cX10_bathesIn 72 = .ok (.getfield 16, 3) := by decide +kernel
theorem dX10_bathesIn_75 : decode cX10_bathesIn 75 = .ok (.iconst 0, 1) := by decide +kernel
theorem dX10_bathesIn_76 : decode cX10_bathesIn 76 = .ok (.aload_n 0, 1) := by decide +kernel
theorem dX10_bathesIn_77 : decode cX10_bathesIn 77 = .ok (.getfield 9, 3) := by decide +kernel
theorem dX10_bathesIn_80 : decode cX10_bathesIn 80 = .ok (.iconst 0, 1) := by decide +kernel
theorem dX10_bathesIn_81 : decode cX10_bathesIn 81 = .ok (.sipush 129, 3) := by decide +kernel
theorem dX10_bathesIn_84 : decode cX10_bathesIn 84 = .ok (.invokestatic 66, 3) := by decide +kernel
theorem dX10_bathesIn_87 : decode cX10_bathesIn 87 = .ok (.aload_n 0, 1) := by decide +kernel
theorem dX10_bathesIn_88 : decode cX10_bathesIn 88 = .ok (.getfield 63, 3) := by decide +kernel
theorem dX10_bathesIn_91 : decode cX10_bathesIn 91 = .ok (.ifCond .le 7, 3) := by decide +kernel
theorem dX10_bathesIn_94 : decode cX10_bathesIn 94 = .ok (.iconst 0, 1) := by decide +kernel
theorem dX10_bathesIn_95 : decode cX10_bathesIn 95 = .ok (.goto 4, 3) := by decide +kernel
theorem dX10_bathesIn_98 : decode cX10_bathesIn 98 = .ok (.iload_n 2, 1) := by decide +kernel
theorem dX10_bathesIn_99 : decode cX10_bathesIn 99 = .ok (.ireturn, 1) := by decide +kernel
theorem dX10_says_0 : decode cX10_says 0 = .ok (.iconst 0, 1) := by decide +kernel
theorem dX10_says_1 : decode cX10_says 1 = .ok (.istore_n 2, 1) := by decide +kernel
theorem dX10_says_2 : decode cX10_says 2 = .ok (.iload_n 2, 1) := by decide +kernel
theorem dX10_says_3 : decode cX10_says 3 = .ok (.aload_n 1, 1) := by decide +kernel
theorem dX10_says_4 : decode cX10_says 4 = .ok (.invokevirtual 198, 3) := by decide +kernel
theorem dX10_says_7 : decode cX10_says 7 = .ok (.if_icmp .ge 33, 3) := by decide +kernel
theorem dX10_says_10 : decode cX10_says 10 = .ok (.aload_n 0, 1) := by decide +kernel
theorem dX10_says_11 : decode cX10_says 11 = .ok (.getfield 25, 3) := by decide +kernel
theorem dX10_says_14 : decode cX10_says 14 = .ok (.aload_n 0, 1) := by decide +kernel
theorem dX10_says_15 : decode cX10_says 15 = .ok (.getfield 201, 3) := by decide +kernel
theorem dX10_says_18 : decode cX10_says 18 = .ok (.aload_n 1, 1) := by decide +kernel
theorem dX10_says_19 : decode cX10_says 19 = .ok (.iload_n 2, 1) := by decide +kernel
theorem dX10_says_20 : decode cX10_says 20 = .ok (.invokevirtual 204, 3) := by decide +kernel
theorem dX10_says_23 : decode cX10_says 23 = .ok (.castore, 1) := by decide +kernel
theorem dX10_says_24 : decode cX10_says 24 = .ok (.aload_n 0, 1) := by decide +kernel
theorem dX10_says_25 : decode cX10_says 25 = .ok (.dup, 1) := by decide +kernel
theorem dX10_says_26 : decode cX10_says 26 = .ok (.getfield 201, 3) := by decide +kernel
theorem dX10_says_29 : decode cX10_says 29 = .ok (.iconst 1, 1) := by decide +kernel
theorem dX10_says_30 : decode cX10_says 30 = .ok (.iadd, 1) := by decide +kernel
theorem dX10_says_31 : decode cX10_says 31 = .ok (.putfield 201, 3) := by decide +kernel
theorem dX10_says_34 : decode cX10_says 34 = .ok (.iinc 2 1, 3) := by decide +kernel
theorem dX10_says_37 : decode cX10_says 37 = .ok (.goto (-35), 3) := by decide +kernel
theorem dX10_says_40 : decode cX10_says 40 = .ok (.return_, 1) := by decide +kernel
theorem dX10_saysNumber_0 : decode cX10_saysNumber 0 = .ok (.iload_n 1, 1) := by decide +kernel
theorem dX10_saysNumber_1 : decode cX10_saysNumber 1 = .ok (.bipush 9, 2) := by decide +kernel
theorem dX10_saysNumber_3 : decode cX10_saysNumber 3 = .ok (.if_icmp .le 11, 3) := by decide +kernel
theorem dX10_saysNumber_6 : decode cX10_saysNumber 6 = .ok (.aload_n 0, 1) := by decide +kernel
theorem dX10_saysNumber_7 : decode cX10_saysNumber 7 = .ok (.iload_n 1, 1) := by decide +kernel
theorem dX10_saysNumber_8 : decode cX10_saysNumber 8 = .ok (.bipush 10, 2) := by decide +kernel
theorem dX10_saysNumber_10 : decode cX10_saysNumber 10 = .ok (.idiv, 1) := by decide +kernel
theorem dX10_saysNumber_11 : decode cX10_saysNumber 11 = .ok (.invokevirtual 208, 3) := by decide +kernel
theorem dX10_saysNumber_14 : decode cX10_saysNumber 14 = .ok (.aload_n 0, 1) := by decide +kernel
theorem dX10_saysNumber_15 : decode cX10_saysNumber 15 = .ok (.getfield 25, 3) := by decide +kernel
theorem dX10_saysNumber_18 : decode cX10_saysNumber 18 = .ok (.aload_n 0, 1) := by decide +kernel
theorem dX10_saysNumber_19 : decode cX10_saysNumber 19 = .ok (.getfield 201, 3) := by decide +kernel
theorem dX10_saysNumber_22 : decode cX10_saysNumber 22 = .ok (.bipush 48, 2) := by decide +kernel
theorem dX10_saysNumber_24 : decode cX10_saysNumber 24 = .ok (.iload_n 1, 1) := by decide +kernel
theorem dX10_saysNumber_25 : decode cX10_saysNumber 25 = .ok (.bipush 10, 2) := by decide +kernel
theorem dX10_saysNumber_27 : decode cX10_saysNumber 27 = .ok (.irem, 1) := by decide +kernel
theorem dX10_saysNumber_28 : decode cX10_saysNumber 28 = .ok (.iadd, 1) := by decide +kernel
theorem dX10_saysNumber_29 : decode cX10_saysNumber 29 = .ok (.i2c, 1) := by decide +kernel
theorem dX10_saysNumber_30 : decode cX10_saysNumber 30 = .ok (.castore, 1) := by decide +kernel
theorem dX10_saysNumber_31 : decode cX10_saysNumber 31 = .ok (.aload_n 0, 1) := by decide +kernel
theorem dX10_saysNumber_32 : decode cX10_saysNumber 32 = .ok (.dup, 1) := by decide +kernel
theorem dX10_saysNumber_33 : decode cX10_saysNumber 33 = .ok (.getfield 201, 3) := by decide +kernel
theorem dX10_saysNumber_36 : decode cX10_saysNumber 36 = .ok (.iconst 1, 1) := by decide +kernel
theorem dX10_saysNumber_37 : decode cX10_saysNumber 37 = .ok (.iadd, 1) := by decide +kernel
theorem dX10_saysNumber_38 : decode cX10_saysNumber 38 = .ok (.putfield 201, 3) := by decide +kernel
theorem dX10_saysNumber_41 : decode cX10_saysNumber 41 = .ok (.return_, 1) := by decide +kernel
theorem dX10_saysTub_0 : decode cX10_saysTub 0 = .ok (.aload_n 0, 1) := by decide +kernel
theorem dX10_saysTub_1 : decode cX10_saysTub 1 = .ok (.ldc 212, 2) := by decide +kernel
theorem dX10_saysTub_3 : decode cX10_saysTub 3 = .ok (.invokevirtual 214, 3) := by decide +kernel
theorem dX10_saysTub_6 : decode cX10_saysTub 6 = .ok (.aload_n 0, 1) := by decide +kernel
theorem dX10_saysTub_7 : decode cX10_saysTub 7 = .ok (.iload_n 1, 1) := by decide +kernel
theorem dX10_saysTub_8 : decode cX10_saysTub 8 = .ok (.invokevirtual 208, 3) := by decide +kernel
theorem dX10_saysTub_11 : decode cX10_saysTub 11 = .ok (.aload_n 0, 1) := by decide +kernel
theorem dX10_saysTub_12 : decode cX10_saysTub 12 = .ok (.ldc 212, 2) := by decide +kernel
theorem dX10_saysTub_14 : decode cX10_saysTub 14 = .ok (.invokevirtual 214, 3) := by decide +kernel
theorem dX10_saysTub_17 : decode cX10_saysTub 17 = .ok (.aload_n 0, 1) := by decide +kernel
theorem dX10_saysTub_18 : decode cX10_saysTub 18 = .ok (.aload_n 0, 1) := by decide +kernel
theorem dX10_saysTub_19 : decode cX10_saysTub 19 = .ok (.iload_n 1, 1) := by decide +kernel
theorem dX10_saysTub_20 : decode cX10_saysTub 20 = .ok (.iconst 3, 1) := by decide +kernel
theorem dX10_saysTub_21 : decode cX10_saysTub 21 = .ok (.invokevirtual 93, 3) := by decide +kernel
theorem dX10_saysTub_24 : decode cX10_saysTub 24 = .ok (.invokevirtual 208, 3) := by decide +kernel
theorem dX10_saysTub_27 : decode cX10_saysTub 27 = .ok (.aload_n 0, 1) := by decide +kernel
theorem dX10_saysTub_28 : decode cX10_saysTub 28 = .ok (.ldc 218, 2) := by decide +kernel
theorem dX10_saysTub_30 : decode cX10_saysTub 30 = .ok (.invokevirtual 214, 3) := by decide +kernel
theorem dX10_saysTub_33 : decode cX10_saysTub 33 = .ok (.aload_n 0, 1) := by decide +kernel
theorem dX10_saysTub_34 : decode cX10_saysTub 34 = .ok (.iload_n 1, 1) := by decide +kernel
theorem dX10_saysTub_35 : decode cX10_saysTub 35 = .ok (.iconst 3, 1) := by decide +kernel
theorem dX10_saysTub_36 : decode cX10_saysTub 36 = .ok (.invokevirtual 93, 3) := by decide +kernel
theorem dX10_saysTub_39 : decode cX10_saysTub 39 = .ok (.ifCond .le 40, 3) := by decide +kernel
theorem dX10_saysTub_42 : decode cX10_saysTub 42 = .ok (.aload_n 0, 1) := by decide +kernel
theorem dX10_saysTub_43 : decode cX10_saysTub 43 = .ok (.ldc 212, 2) := by decide +kernel
theorem dX10_saysTub_45 : decode cX10_saysTub 45 = .ok (.invokevirtual 214, 3) := by decide +kernel
theorem dX10_saysTub_48 : decode cX10_saysTub 48 = .ok (.aload_n 0, 1) := by decide +kernel
theorem dX10_saysTub_49 : decode cX10_saysTub 49 = .ok (.aload_n 0, 1) := by decide +kernel
theorem dX10_saysTub_50 : decode cX10_saysTub 50 = .ok (.iload_n 1, 1) := by decide +kernel
theorem dX10_saysTub_51 : decode cX10_saysTub 51 = .ok (.iconst 4, 1) := by decide +kernel
theorem dX10_saysTub_52 : decode cX10_saysTub 52 = .ok (.invokevirtual 93, 3) := by decide +kernel
theorem dX10_saysTub_55 : decode cX10_saysTub 55 = .ok (.invokevirtual 208, 3) := by decide +kernel
theorem dX10_saysTub_58 : decode cX10_saysTub 58 = .ok (.aload_n 0, 1) := by decide +kernel
theorem dX10_saysTub_59 : decode cX10_saysTub 59 = .ok (.aload_n 0, 1) := by decide +kernel
theorem dX10_saysTub_60 : decode cX10_saysTub 60 = .ok (.iload_n 1, 1) := by decide +kernel
theorem dX10_saysTub_61 : decode cX10_saysTub 61 = .ok (.iconst 5, 1) := by decide +kernel
theorem dX10_saysTub_62 : decode cX10_saysTub 62 = .ok (.invokevirtual 93, 3) := by decide +kernel
theorem dX10_saysTub_65 : decode cX10_saysTub 65 = .ok (.iconst 1, 1) := by decide +kernel
theorem dX10_saysTub_66 : decode cX10_saysTub 66 = .ok (.if_icmp .ne 8, 3) := by decide +kernel
theorem dX10_saysTub_69 : decode cX10_saysTub 69 = .ok (.ldc 220, 2) := by decide +kernel
theorem dX10_saysTub_71 : decode cX10_saysTub 71 = .ok (.goto 5, 3) := by decide +kernel
theorem dX10_saysTub_74 : decode cX10_saysTub 74 = .ok (.ldc 222, 2) := by decide +kernel
theorem dX10_saysTub_76 : decode cX10_saysTub 76 = .ok (.invokevirtual 214, 3) := by decide +kernel
theorem dX10_saysTub_79 : decode cX10_saysTub 79 = .ok (.return_, 1) := by decide +kernel
theorem dX10_line_0 : decode cX10_line 0 = .ok (.aload_n 0, 1) := by decide +kernel
theorem dX10_line_1 : decode cX10_line 1 = .ok (.aload_n 0, 1) := by decide +kernel
theorem dX10_line_2 : decode cX10_line 2 = .ok (.iload_n 1, 1) := by decide +kernel
theorem dX10_line_3 : decode cX10_line 3 = .ok (.invokevirtual 131, 3) := by decide +kernel
theorem dX10_line_6 : decode cX10_line 6 = .ok (.ifCond .eq 7, 3) := by decide +kernel
theorem dX10_line_9 : decode cX10_line 9 = .ok (.iconst 0, 1) := by decide +kernel
theorem dX10_line_10 : decode cX10_line 10 = .ok (.goto 4, 3) := by decide +kernel
theorem dX10_line_13 : decode cX10_line 13 = .ok (.iconst 1, 1) := by decide +kernel
theorem dX10_line_14 : decode cX10_line 14 = .ok (.putfield 63, 3) := by decide +kernel
theorem dX10_line_17 : decode cX10_line 17 = .ok (.aload_n 0, 1) := by decide +kernel
theorem dX10_line_18 : decode cX10_line 18 = .ok (.getfield 63, 3) := by decide +kernel
theorem dX10_line_21 : decode cX10_line 21 = .ok (.ifCond .le 5, 3) := by decide +kernel
theorem dX10_line_24 : decode cX10_line 24 = .ok (.iconst 0, 1) := by decide +kernel
theorem dX10_line_25 : decode cX10_line 25 = .ok (.ireturn, 1) := by decide +kernel
theorem dX10_line_26 : decode cX10_line 26 = .ok (.aload_n 0, 1) := by decide +kernel
theorem dX10_line_27 : decode cX10_line 27 = .ok (.iconst 0, 1) := by decide +kernel
theorem dX10_line_28 : decode cX10_line 28 = .ok (.putfield 201, 3) := by decide +kernel
theorem dX10_line_31 : decode cX10_line 31 = .ok (.aload_n 0, 1) := by decide +kernel
theorem dX10_line_32 : decode cX10_line 32 = .ok (.iload_n 1, 1) := by decide +kernel
theorem dX10_line_33 : decode cX10_line 33 = .ok (.invokevirtual 208, 3) := by decide +kernel
theorem dX10_line_36 : decode cX10_line 36 = .ok (.aload_n 0, 1) := by decide +kernel
theorem dX10_line_37 : decode cX10_line 37 = .ok (.ldc 224, 2) := by decide +kernel
theorem dX10_line_39 : decode cX10_line 39 = .ok (.invokevirtual 214, 3) := by decide +kernel
theorem dX10_line_42 : decode cX10_line 42 = .ok (.aload_n 0, 1) := by decide +kernel
theorem dX10_line_43 : decode cX10_line 43 = .ok (.iload_n 1, 1) := by decide +kernel
theorem dX10_line_44 : decode cX10_line 44 = .ok (.iconst 1, 1) := by decide +kernel
theorem dX10_line_45 : decode cX10_line 45 = .ok (.invokevirtual 134, 3) := by decide +kernel
theorem dX10_line_48 : decode cX10_line 48 = .ok (.ifCond .ge 12, 3) := by decide +kernel
theorem dX10_line_51 : decode cX10_line 51 = .ok (.aload_n 0, 1) := by decide +kernel
theorem dX10_line_52 : decode cX10_line 52 = .ok (.ldc 226, 2) := by decide +kernel
theorem dX10_line_54 : decode cX10_line 54 = .ok (.invokevirtual 214, 3) := by decide +kernel
theorem dX10_line_57 : decode cX10_line 57 = .ok (.goto 13, 3) := by decide +kernel
theorem dX10_line_60 : decode cX10_line 60 = .ok (.aload_n 0, 1) := by decide +kernel
theorem dX10_line_61 : decode cX10_line 61 = .ok (.aload_n 0, 1) := by decide +kernel
theorem dX10_line_62 : decode cX10_line 62 = .ok (.iload_n 1, 1) := by decide +kernel
theorem dX10_line_63 : decode cX10_line 63 = .ok (.iconst 1, 1) := by decide +kernel
theorem dX10_line_64 : decode cX10_line 64 = .ok (.invokevirtual 134, 3) := by decide +kernel
theorem dX10_line_67 : decode cX10_line 67 = .ok (.invokevirtual 228, 3) := by decide +kernel
theorem dX10_line_70 : decode cX10_line 70 = .ok (.aload_n 0, 1) := by decide +kernel
theorem dX10_line_71 : decode cX10_line 71 = .ok (.iload_n 1, 1) := by decide +kernel
theorem dX10_line_72 : decode cX10_line 72 = .ok (.iconst 2, 1) := by decide +kernel
theorem dX10_line_73 : decode cX10_line 73 = .ok (.invokevirtual 134, 3) := by decide +kernel
theorem dX10_line_76 : decode cX10_line 76 = .ok (.ifCond .lt 23, 3) := by decide +kernel
theorem dX10_line_79 : decode cX10_line 79 = .ok (.aload_n 0, 1) := by decide +kernel
theorem dX10_line_80 : decode cX10_line 80 = .ok (.ldc 231, 2) := by decide +kernel
theorem dX10_line_82 : decode cX10_line 82 = .ok (.invokevirtual 214, 3) := by decide +kernel
theorem dX10_line_85 : decode cX10_line 85 = .ok (.aload_n 0, 1) := by decide +kernel
theorem dX10_line_86 : decode cX10_line 86 = .ok (.aload_n 0, 1) := by decide +kernel
theorem dX10_line_87 : decode cX10_line 87 = .ok (.aload_n 0, 1) := by decide +kernel
theorem dX10_line_88 : decode cX10_line 88 = .ok (.iload_n 1, 1) := by decide +kernel
theorem dX10_line_89 : decode cX10_line 89 = .ok (.iconst 2, 1) := by decide +kernel
theorem dX10_line_90 : decode cX10_line 90 = .ok (.invokevirtual 134, 3) := by decide +kernel
theorem dX10_line_93 : decode cX10_line 93 = .ok (.invokevirtual 152, 3) := by decide +kernel
theorem dX10_line_96 : decode cX10_line 96 = .ok (.invokevirtual 208, 3) := by decide +kernel
theorem dX10_line_99 : decode cX10_line 99 = .ok (.aload_n 0, 1) := by decide +kernel
theorem dX10_line_100 : decode cX10_line 100 = .ok (.iload_n 1, 1) := by decide +kernel
theorem dX10_line_101 : decode cX10_line 101 = .ok (.iconst 4, 1) := by decide +kernel
theorem dX10_line_102 : decode cX10_line 102 = .ok (.invokevirtual 134, 3) := by decide +kernel
theorem dX10_line_105 : decode cX10_line 105 = .ok (.ifCond .le 19, 3) := by decide +kernel
theorem dX10_line_108 : decode cX10_line 108 = .ok (.aload_n 0, 1) := by decide +kernel
theorem dX10_line_109 : decode cX10_line 109 = .ok (.ldc 233, 2) := by decide +kernel
theorem dX10_line_111 : decode cX10_line 111 = .ok (.invokevirtual 214, 3) := by decide +kernel
theorem dX10_line_114 : decode cX10_line 114 = .ok (.aload_n 0, 1) := by decide +kernel
theorem dX10_line_115 : decode cX10_line 115 = .ok (.aload_n 0, 1) := by decide +kernel
theorem dX10_line_116 : decode cX10_line 116 = .ok (.iload_n 1, 1) := by decide +kernel
theorem dX10_line_117 : decode cX10_line 117 = .ok (.iconst 4, 1) := by decide +kernel
theorem dX10_line_118 : decode cX10_line 118 = .ok (.invokevirtual 134, 3) := by decide +kernel
theorem dX10_line_121 : decode cX10_line 121 = .ok (.invokevirtual 208, 3) := by decide +kernel
theorem dX10_line_124 : decode cX10_line 124 = .ok (.aload_n 0, 1) := by decide +kernel
theorem dX10_line_125 : decode cX10_line 125 = .ok (.getfield 201, 3) := by decide +kernel
theorem dX10_line_128 : decode cX10_line 128 = .ok (.ireturn, 1) := by decide +kernel
theorem dX10_character_0 : decode cX10_character 0 = .ok (.aload_n 0, 1) := by decide +kernel
theorem dX10_character_1 : decode cX10_character 1 = .ok (.iload_n 1, 1) := by decide +kernel
theorem dX10_character_2 : decode cX10_character 2 = .ok (.iconst 0, 1) := by decide +kernel
theorem dX10_character_3 : decode cX10_character 3 = .ok (.aload_n 0, 1) := by decide +kernel
theorem dX10_character_4 : decode cX10_character 4 = .ok (.getfield 201, 3) := by decide +kernel
theorem dX10_character_7 : decode cX10_character 7 = .ok (.iconst 1, 1) := by decide +kernel
theorem dX10_character_8 : decode cX10_character 8 = .ok (.isub, 1) := by decide +kernel
theorem dX10_character_9 : decode cX10_character 9 = .ok (.invokestatic 85, 3) := by decide +kernel
theorem dX10_character_12 : decode cX10_character 12 = .ok (.ifCond .eq 7, 3) := by decide +kernel
theorem dX10_character_15 : decode cX10_character 15 = .ok (.iconst 0, 1) := by decide +kernel
theorem dX10_character_16 : decode cX10_character 16 = .ok (.goto 4, 3) := by decide +kernel
theorem dX10_character_19 : decode cX10_character 19 = .ok (.iconst 1, 1) := by decide +kernel
theorem dX10_character_20 : decode cX10_character 20 = .ok (.putfield 63, 3) := by decide +kernel
theorem dX10_character_23 : decode cX10_character 23 = .ok (.aload_n 0, 1) := by decide +kernel
theorem dX10_character_24 : decode cX10_character 24 = .ok (.getfield 63, 3) := by decide +kernel
theorem dX10_character_27 : decode cX10_character 27 = .ok (.ifCond .le 8, 3) := by decide +kernel
theorem dX10_character_30 : decode cX10_character 30 = .ok (.bipush 32, 2) := by decide +kernel
theorem dX10_character_32 : decode cX10_character 32 = .ok (.goto 9, 3) := by decide +kernel
theorem dX10_character_35 : decode cX10_character 35 = .ok (.aload_n 0, 1) := by decide +kernel
theorem dX10_character_36 : decode cX10_character 36 = .ok (.getfield 25, 3) := by decide +kernel
theorem dX10_character_39 : decode cX10_character 39 = .ok (.iload_n 1, 1) := by decide +kernel
theorem dX10_character_40 : decode cX10_character 40 = .ok (.caload, 1) := by decide +kernel
theorem dX10_character_41 : decode cX10_character 41 = .ok (.ireturn, 1) := by decide +kernel
theorem dX10_overTubs_0 : decode cX10_overTubs 0 = .ok (.iconst 0, 1) := by decide +kernel
theorem dX10_overTubs_1 : decode cX10_overTubs 1 = .ok (.istore_n 2, 1) := by decide +kernel
theorem dX10_overTubs_2 : decode cX10_overTubs 2 = .ok (.iconst 0, 1) := by decide +kernel
theorem dX10_overTubs_3 : decode cX10_overTubs 3 = .ok (.istore_n 3, 1) := by decide +kernel
theorem dX10_overTubs_4 : decode cX10_overTubs 4 = .ok (.iload_n 3, 1) := by decide +kernel
theorem dX10_overTubs_5 : decode cX10_overTubs 5 = .ok (.aload_n 0, 1) := by decide +kernel
theorem dX10_overTubs_6 : decode cX10_overTubs 6 = .ok (.getfield 9, 3) := by decide +kernel
theorem dX10_overTubs_9 : decode cX10_overTubs 9 = .ok (.iconst 1, 1) := by decide +kernel
theorem dX10_overTubs_10 : decode cX10_overTubs 10 = .ok (.iaload, 1) := by decide +kernel
theorem dX10_overTubs_11 : decode cX10_overTubs 11 = .ok (.if_icmp .ge 54, 3) := by decide +kernel
theorem dX10_overTubs_14 : decode cX10_overTubs 14 = .ok (.iload_n 2, 1) := by decide +kernel
theorem dX10_overTubs_15 : decode cX10_overTubs 15 = .ok (.iload_n 1, 1) := by decide +kernel
theorem dX10_overTubs_16 : decode cX10_overTubs 16 = .ok (.iconst 3, 1) := by decide +kernel
theorem dX10_overTubs_17 : decode cX10_overTubs 17 = .ok (.if_icmp .ne 11, 3) := by decide +kernel
theorem dX10_overTubs_20 : decode cX10_overTubs 20 = .ok (.aload_n 0, 1) := by decide +kernel
theorem dX10_overTubs_21 : decode cX10_overTubs 21 = .ok (.iload_n 3, 1) := by decide +kernel
theorem dX10_overTubs_22 : decode cX10_overTubs 22 = .ok (.invokevirtual 125, 3) := by decide +kernel
theorem dX10_overTubs_25 : decode cX10_overTubs 25 = .ok (.goto 32, 3) := by decide +kernel
theorem dX10_overTubs_28 : decode cX10_overTubs 28 = .ok (.iload_n 1, 1) := by decide +kernel
theorem dX10_overTubs_29 : decode cX10_overTubs 29 = .ok (.bipush 14, 2) := by decide +kernel
theorem dX10_overTubs_31 : decode cX10_overTubs 31 = .ok (.if_icmp .ne 12, 3) := by decide +kernel
theorem dX10_overTubs_34 : decode cX10_overTubs 34 = .ok (.aload_n 0, 1) := by decide +kernel
theorem dX10_overTubs_35 : decode cX10_overTubs 35 = .ok (.iload_n 3, 1) := by decide +kernel
theorem dX10_overTubs_36 : decode cX10_overTubs 36 = .ok (.iconst 3, 1) := by decide +kernel
theorem dX10_overTubs_37 : decode cX10_overTubs 37 = .ok (.invokevirtual 93, 3) := by decide +kernel
theorem dX10_overTubs_40 : decode cX10_overTubs 40 = .ok (.goto 17, 3) := by decide +kernel
theorem dX10_overTubs_43 : decode cX10_overTubs 43 = .ok (.aload_n 0, 1) := by decide +kernel
theorem dX10_overTubs_44 : decode cX10_overTubs 44 = .ok (.iload_n 3, 1) := by decide +kernel
theorem dX10_overTubs_45 : decode cX10_overTubs 45 = .ok (.iconst 1, 1) := by decide +kernel
theorem dX10_overTubs_46 : decode cX10_overTubs 46 = .ok (.invokevirtual 93, 3) := by decide +kernel
theorem dX10_overTubs_49 : decode cX10_overTubs 49 = .ok (.ifCond .ge 7, 3) := by decide +kernel
theorem dX10_overTubs_52 : decode cX10_overTubs 52 = .ok (.iconst 0, 1) := by decide +kernel
theorem dX10_overTubs_53 : decode cX10_overTubs 53 = .ok (.goto 4, 3) := by decide +kernel
theorem dX10_overTubs_56 : decode cX10_overTubs 56 = .ok (.iconst 1, 1) := by decide +kernel
theorem dX10_overTubs_57 : decode cX10_overTubs 57 = .ok (.iadd, 1) := by decide +kernel
theorem dX10_overTubs_58 : decode cX10_overTubs 58 = .ok (.istore_n 2, 1) := by decide +kernel
theorem dX10_overTubs_59 : decode cX10_overTubs 59 = .ok (.iinc 3 1, 3) := by decide +kernel
theorem dX10_overTubs_62 : decode cX10_overTubs 62 = .ok (.goto (-58), 3) := by decide +kernel
theorem dX10_overTubs_65 : decode cX10_overTubs 65 = .ok (.iload_n 2, 1) := by decide +kernel
theorem dX10_overTubs_66 : decode cX10_overTubs 66 = .ok (.ireturn, 1) := by decide +kernel
theorem dX10_allGas_0 : decode cX10_allGas 0 = .ok (.iconst 0, 1) := by decide +kernel
theorem dX10_allGas_1 : decode cX10_allGas 1 = .ok (.istore_n 1, 1) := by decide +kernel
theorem dX10_allGas_2 : decode cX10_allGas 2 = .ok (.iconst 0, 1) := by decide +kernel
theorem dX10_allGas_3 : decode cX10_allGas 3 = .ok (.istore_n 2, 1) := by decide +kernel
theorem dX10_allGas_4 : decode cX10_allGas 4 = .ok (.iload_n 2, 1) := by decide +kernel
theorem dX10_allGas_5 : decode cX10_allGas 5 = .ok (.aload_n 0, 1) := by decide +kernel
theorem dX10_allGas_6 : decode cX10_allGas 6 = .ok (.getfield 9, 3) := by decide +kernel
theorem dX10_allGas_9 : decode cX10_allGas 9 = .ok (.iconst 3, 1) := by decide +kernel
theorem dX10_allGas_10 : decode cX10_allGas 10 = .ok (.iaload, 1) := by decide +kernel
theorem dX10_allGas_11 : decode cX10_allGas 11 = .ok (.if_icmp .ge 17, 3) := by decide +kernel
theorem dX10_allGas_14 : decode cX10_allGas 14 = .ok (.iload_n 1, 1) := by decide +kernel
theorem dX10_allGas_15 : decode cX10_allGas 15 = .ok (.aload_n 0, 1) := by decide +kernel
theorem dX10_allGas_16 : decode cX10_allGas 16 = .ok (.iload_n 2, 1) := by decide +kernel
end
section
theorem dX10_allGas_17 : decode cX10_allGas 17 = .ok (.invokevirtual 152, 3) := by decide +kernel
theorem dX10_allGas_20 : decode cX10_allGas 20 = .ok (.iadd, 1) := by decide +kernel
theorem dX10_allGas_21 : decode cX10_allGas 21 = .ok (.istore_n 1, 1) := by decide +kernel
theorem dX10_allGas_22 : decode cX10_allGas 22 = .ok (.iinc 2 1, 3) := by decide +kernel
theorem dX10_allGas_25 : decode cX10_allGas 25 = .ok (.goto (-21), 3) := by decide +kernel
theorem dX10_allGas_28 : decode cX10_allGas 28 = .ok (.iload_n 1, 1) := by decide +kernel
theorem dX10_allGas_29 : decode cX10_allGas 29 = .ok (.ireturn, 1) := by decide +kernel
theorem dX10_allWait_0 : decode cX10_allWait 0 = .ok (.iconst 0, 1) := by decide +kernel
theorem dX10_allWait_1 : decode cX10_allWait 1 = .ok (.istore_n 1, 1) := by decide +kernel
theorem dX10_allWait_2 : decode cX10_allWait 2 = .ok (.iconst 0, 1) := by decide +kernel
theorem dX10_allWait_3 : decode cX10_allWait 3 = .ok (.istore_n 2, 1) := by decide +kernel
theorem dX10_allWait_4 : decode cX10_allWait 4 = .ok (.iload_n 2, 1) := by decide +kernel
theorem dX10_allWait_5 : decode cX10_allWait 5 = .ok (.aload_n 0, 1) := by decide +kernel
theorem dX10_allWait_6 : decode cX10_allWait 6 = .ok (.getfield 9, 3) := by decide +kernel
theorem dX10_allWait_9 : decode cX10_allWait 9 = .ok (.iconst 2, 1) := by decide +kernel
theorem dX10_allWait_10 : decode cX10_allWait 10 = .ok (.iaload, 1) := by decide +kernel
theorem dX10_allWait_11 : decode cX10_allWait 11 = .ok (.if_icmp .ge 18, 3) := by decide +kernel
theorem dX10_allWait_14 : decode cX10_allWait 14 = .ok (.iload_n 1, 1) := by decide +kernel
theorem dX10_allWait_15 : decode cX10_allWait 15 = .ok (.aload_n 0, 1) := by decide +kernel
theorem dX10_allWait_16 : decode cX10_allWait 16 = .ok (.iload_n 2, 1) := by decide +kernel
theorem dX10_allWait_17 : decode cX10_allWait 17 = .ok (.iconst 4, 1) := by decide +kernel
theorem dX10_allWait_18 : decode cX10_allWait 18 = .ok (.invokevirtual 134, 3) := by decide +kernel
theorem dX10_allWait_21 : decode cX10_allWait 21 = .ok (.iadd, 1) := by decide +kernel
theorem dX10_allWait_22 : decode cX10_allWait 22 = .ok (.istore_n 1, 1) := by decide +kernel
theorem dX10_allWait_23 : decode cX10_allWait 23 = .ok (.iinc 2 1, 3) := by decide +kernel
theorem dX10_allWait_26 : decode cX10_allWait 26 = .ok (.goto (-22), 3) := by decide +kernel
theorem dX10_allWait_29 : decode cX10_allWait 29 = .ok (.iload_n 1, 1) := by decide +kernel
theorem dX10_allWait_30 : decode cX10_allWait 30 = .ok (.ireturn, 1) := by decide +kernel
theorem dX10_number_0 : decode cX10_number 0 = .ok (.aload_n 0, 1) := by decide +kernel
theorem dX10_number_1 : decode cX10_number 1 = .ok (.iload_n 1, 1) := by decide +kernel
theorem dX10_number_2 : decode cX10_number 2 = .ok (.iconst 0, 1) := by decide +kernel
theorem dX10_number_3 : decode cX10_number 3 = .ok (.bipush 16, 2) := by decide +kernel
theorem dX10_number_5 : decode cX10_number 5 = .ok (.invokestatic 85, 3) := by decide +kernel
theorem dX10_number_8 : decode cX10_number 8 = .ok (.ifCond .eq 7, 3) := by decide +kernel
theorem dX10_number_11 : decode cX10_number 11 = .ok (.iconst 0, 1) := by decide +kernel
theorem dX10_number_12 : decode cX10_number 12 = .ok (.goto 4, 3) := by decide +kernel
theorem dX10_number_15 : decode cX10_number 15 = .ok (.iconst 1, 1) := by decide +kernel
theorem dX10_number_16 : decode cX10_number 16 = .ok (.putfield 63, 3) := by decide +kernel
theorem dX10_number_19 : decode cX10_number 19 = .ok (.aload_n 0, 1) := by decide +kernel
theorem dX10_number_20 : decode cX10_number 20 = .ok (.getfield 63, 3) := by decide +kernel
theorem dX10_number_23 : decode cX10_number 23 = .ok (.ifCond .le 5, 3) := by decide +kernel
theorem dX10_number_26 : decode cX10_number 26 = .ok (.iconst 0, 1) := by decide +kernel
theorem dX10_number_27 : decode cX10_number 27 = .ok (.ireturn, 1) := by decide +kernel
theorem dX10_number_28 : decode cX10_number 28 = .ok (.iload_n 1, 1) := by decide +kernel
theorem dX10_number_29 : decode cX10_number 29 = .ok (.tableswitch 144 0 15 #[79, 79, 86, 86, 92, 92, 101, 106, 106, 115, 120, 120, 129, 129, 86, 139], 79) := by decide +kernel
theorem dX10_number_108 : decode cX10_number 108 = .ok (.aload_n 0, 1) := by decide +kernel
theorem dX10_number_109 : decode cX10_number 109 = .ok (.getfield 9, 3) := by decide +kernel
theorem dX10_number_112 : decode cX10_number 112 = .ok (.iload_n 1, 1) := by decide +kernel
theorem dX10_number_113 : decode cX10_number 113 = .ok (.iaload, 1) := by decide +kernel
theorem dX10_number_114 : decode cX10_number 114 = .ok (.ireturn, 1) := by decide +kernel
theorem dX10_number_115 : decode cX10_number 115 = .ok (.aload_n 0, 1) := by decide +kernel
theorem dX10_number_116 : decode cX10_number 116 = .ok (.iload_n 1, 1) := by decide +kernel
theorem dX10_number_117 : decode cX10_number 117 = .ok (.invokevirtual 235, 3) := by decide +kernel
theorem dX10_number_120 : decode cX10_number 120 = .ok (.ireturn, 1) := by decide +kernel
theorem dX10_number_121 : decode cX10_number 121 = .ok (.aload_n 0, 1) := by decide +kernel
theorem dX10_number_122 : decode cX10_number 122 = .ok (.getfield 9, 3) := by decide +kernel
theorem dX10_number_125 : decode cX10_number 125 = .ok (.iload_n 1, 1) := by decide +kernel
theorem dX10_number_126 : decode cX10_number 126 = .ok (.iconst 2, 1) := by decide +kernel
theorem dX10_number_127 : decode cX10_number 127 = .ok (.isub, 1) := by decide +kernel
theorem dX10_number_128 : decode cX10_number 128 = .ok (.iaload, 1) := by decide +kernel
theorem dX10_number_129 : decode cX10_number 129 = .ok (.ireturn, 1) := by decide +kernel
theorem dX10_number_130 : decode cX10_number 130 = .ok (.aload_n 0, 1) := by decide +kernel
theorem dX10_number_131 : decode cX10_number 131 = .ok (.invokevirtual 238, 3) := by decide +kernel
theorem dX10_number_134 : decode cX10_number 134 = .ok (.ireturn, 1) := by decide +kernel
theorem dX10_number_135 : decode cX10_number 135 = .ok (.aload_n 0, 1) := by decide +kernel
theorem dX10_number_136 : decode cX10_number 136 = .ok (.getfield 9, 3) := by decide +kernel
theorem dX10_number_139 : decode cX10_number 139 = .ok (.iload_n 1, 1) := by decide +kernel
theorem dX10_number_140 : decode cX10_number 140 = .ok (.iconst 3, 1) := by decide +kernel
theorem dX10_number_141 : decode cX10_number 141 = .ok (.isub, 1) := by decide +kernel
theorem dX10_number_142 : decode cX10_number 142 = .ok (.iaload, 1) := by decide +kernel
theorem dX10_number_143 : decode cX10_number 143 = .ok (.ireturn, 1) := by decide +kernel
theorem dX10_number_144 : decode cX10_number 144 = .ok (.aload_n 0, 1) := by decide +kernel
theorem dX10_number_145 : decode cX10_number 145 = .ok (.invokevirtual 241, 3) := by decide +kernel
theorem dX10_number_148 : decode cX10_number 148 = .ok (.ireturn, 1) := by decide +kernel
theorem dX10_number_149 : decode cX10_number 149 = .ok (.aload_n 0, 1) := by decide +kernel
theorem dX10_number_150 : decode cX10_number 150 = .ok (.getfield 9, 3) := by decide +kernel
theorem dX10_number_153 : decode cX10_number 153 = .ok (.iload_n 1, 1) := by decide +kernel
theorem dX10_number_154 : decode cX10_number 154 = .ok (.iconst 2, 1) := by decide +kernel
theorem dX10_number_155 : decode cX10_number 155 = .ok (.isub, 1) := by decide +kernel
theorem dX10_number_156 : decode cX10_number 156 = .ok (.iaload, 1) := by decide +kernel
theorem dX10_number_157 : decode cX10_number 157 = .ok (.ireturn, 1) := by decide +kernel
theorem dX10_number_158 : decode cX10_number 158 = .ok (.aload_n 0, 1) := by decide +kernel
theorem dX10_number_159 : decode cX10_number 159 = .ok (.getfield 9, 3) := by decide +kernel
theorem dX10_number_162 : decode cX10_number 162 = .ok (.iload_n 1, 1) := by decide +kernel
theorem dX10_number_163 : decode cX10_number 163 = .ok (.bipush 6, 2) := by decide +kernel
theorem dX10_number_165 : decode cX10_number 165 = .ok (.isub, 1) := by decide +kernel
theorem dX10_number_166 : decode cX10_number 166 = .ok (.iaload, 1) := by decide +kernel
theorem dX10_number_167 : decode cX10_number 167 = .ok (.ireturn, 1) := by decide +kernel
theorem dX10_number_168 : decode cX10_number 168 = .ok (.aload_n 0, 1) := by decide +kernel
theorem dX10_number_169 : decode cX10_number 169 = .ok (.getfield 72, 3) := by decide +kernel
theorem dX10_number_172 : decode cX10_number 172 = .ok (.ireturn, 1) := by decide +kernel
theorem dX10_number_173 : decode cX10_number 173 = .ok (.aload_n 0, 1) := by decide +kernel
theorem dX10_number_174 : decode cX10_number 174 = .ok (.getfield 244, 3) := by decide +kernel
theorem dX10_number_177 : decode cX10_number 177 = .ok (.ireturn, 1) := by decide +kernel
theorem dX10_towels_0 : decode cX10_towels 0 = .ok (.aload_n 0, 1) := by decide +kernel
theorem dX10_towels_1 : decode cX10_towels 1 = .ok (.iconst 0, 1) := by decide +kernel
theorem dX10_towels_2 : decode cX10_towels 2 = .ok (.putfield 63, 3) := by decide +kernel
theorem dX10_towels_5 : decode cX10_towels 5 = .ok (.aload_n 0, 1) := by decide +kernel
theorem dX10_towels_6 : decode cX10_towels 6 = .ok (.getfield 9, 3) := by decide +kernel
theorem dX10_towels_9 : decode cX10_towels 9 = .ok (.iconst 4, 1) := by decide +kernel
theorem dX10_towels_10 : decode cX10_towels 10 = .ok (.iaload, 1) := by decide +kernel
theorem dX10_towels_11 : decode cX10_towels 11 = .ok (.aload_n 0, 1) := by decide +kernel
theorem dX10_towels_12 : decode cX10_towels 12 = .ok (.getfield 9, 3) := by decide +kernel
theorem dX10_towels_15 : decode cX10_towels 15 = .ok (.iconst 5, 1) := by decide +kernel
theorem dX10_towels_16 : decode cX10_towels 16 = .ok (.iaload, 1) := by decide +kernel
theorem dX10_towels_17 : decode cX10_towels 17 = .ok (.iadd, 1) := by decide +kernel
theorem dX10_towels_18 : decode cX10_towels 18 = .ok (.aload_n 0, 1) := by decide +kernel
theorem dX10_towels_19 : decode cX10_towels 19 = .ok (.getfield 9, 3) := by decide +kernel
theorem dX10_towels_22 : decode cX10_towels 22 = .ok (.bipush 8, 2) := by decide +kernel
theorem dX10_towels_24 : decode cX10_towels 24 = .ok (.iaload, 1) := by decide +kernel
theorem dX10_towels_25 : decode cX10_towels 25 = .ok (.iadd, 1) := by decide +kernel
theorem dX10_towels_26 : decode cX10_towels 26 = .ok (.aload_n 0, 1) := by decide +kernel
theorem dX10_towels_27 : decode cX10_towels 27 = .ok (.getfield 9, 3) := by decide +kernel
theorem dX10_towels_30 : decode cX10_towels 30 = .ok (.bipush 9, 2) := by decide +kernel
theorem dX10_towels_32 : decode cX10_towels 32 = .ok (.iaload, 1) := by decide +kernel
theorem dX10_towels_33 : decode cX10_towels 33 = .ok (.isub, 1) := by decide +kernel
theorem dX10_towels_34 : decode cX10_towels 34 = .ok (.ireturn, 1) := by decide +kernel
theorem dX10_meanWarmth_0 : decode cX10_meanWarmth 0 = .ok (.iconst 0, 1) := by decide +kernel
theorem dX10_meanWarmth_1 : decode cX10_meanWarmth 1 = .ok (.istore_n 1, 1) := by decide +kernel
theorem dX10_meanWarmth_2 : decode cX10_meanWarmth 2 = .ok (.iconst 0, 1) := by decide +kernel
theorem dX10_meanWarmth_3 : decode cX10_meanWarmth 3 = .ok (.istore_n 2, 1) := by decide +kernel
theorem dX10_meanWarmth_4 : decode cX10_meanWarmth 4 = .ok (.iconst 0, 1) := by decide +kernel
theorem dX10_meanWarmth_5 : decode cX10_meanWarmth 5 = .ok (.istore_n 3, 1) := by decide +kernel
theorem dX10_meanWarmth_6 : decode cX10_meanWarmth 6 = .ok (.iload_n 3, 1) := by decide +kernel
theorem dX10_meanWarmth_7 : decode cX10_meanWarmth 7 = .ok (.aload_n 0, 1) := by decide +kernel
theorem dX10_meanWarmth_8 : decode cX10_meanWarmth 8 = .ok (.getfield 9, 3) := by decide +kernel
theorem dX10_meanWarmth_11 : decode cX10_meanWarmth 11 = .ok (.iconst 1, 1) := by decide +kernel
theorem dX10_meanWarmth_12 : decode cX10_meanWarmth 12 = .ok (.iaload, 1) := by decide +kernel
theorem dX10_meanWarmth_13 : decode cX10_meanWarmth 13 = .ok (.if_icmp .ge 56, 3) := by decide +kernel
theorem dX10_meanWarmth_16 : decode cX10_meanWarmth 16 = .ok (.aload_n 0, 1) := by decide +kernel
theorem dX10_meanWarmth_17 : decode cX10_meanWarmth 17 = .ok (.iload_n 3, 1) := by decide +kernel
theorem dX10_meanWarmth_18 : decode cX10_meanWarmth 18 = .ok (.iconst 3, 1) := by decide +kernel
theorem dX10_meanWarmth_19 : decode cX10_meanWarmth 19 = .ok (.invokevirtual 93, 3) := by decide +kernel
theorem dX10_meanWarmth_22 : decode cX10_meanWarmth 22 = .ok (.ifCond .le 7, 3) := by decide +kernel
theorem dX10_meanWarmth_25 : decode cX10_meanWarmth 25 = .ok (.iconst 1, 1) := by decide +kernel
theorem dX10_meanWarmth_26 : decode cX10_meanWarmth 26 = .ok (.goto 4, 3) := by decide +kernel
theorem dX10_meanWarmth_29 : decode cX10_meanWarmth 29 = .ok (.iconst 0, 1) := by decide +kernel
theorem dX10_meanWarmth_30 : decode cX10_meanWarmth 30 = .ok (.istore 4, 2) := by decide +kernel
theorem dX10_meanWarmth_32 : decode cX10_meanWarmth 32 = .ok (.iload_n 1, 1) := by decide +kernel
theorem dX10_meanWarmth_33 : decode cX10_meanWarmth 33 = .ok (.iload 4, 2) := by decide +kernel
theorem dX10_meanWarmth_35 : decode cX10_meanWarmth 35 = .ok (.ifCond .eq 12, 3) := by decide +kernel
theorem dX10_meanWarmth_38 : decode cX10_meanWarmth 38 = .ok (.aload_n 0, 1) := by decide +kernel
theorem dX10_meanWarmth_39 : decode cX10_meanWarmth 39 = .ok (.iload_n 3, 1) := by decide +kernel
theorem dX10_meanWarmth_40 : decode cX10_meanWarmth 40 = .ok (.iconst 4, 1) := by decide +kernel
theorem dX10_meanWarmth_41 : decode cX10_meanWarmth 41 = .ok (.invokevirtual 93, 3) := by decide +kernel
theorem dX10_meanWarmth_44 : decode cX10_meanWarmth 44 = .ok (.goto 4, 3) := by decide +kernel
theorem dX10_meanWarmth_47 : decode cX10_meanWarmth 47 = .ok (.iconst 0, 1) := by decide +kernel
theorem dX10_meanWarmth_48 : decode cX10_meanWarmth 48 = .ok (.iadd, 1) := by decide +kernel
theorem dX10_meanWarmth_49 : decode cX10_meanWarmth 49 = .ok (.istore_n 1, 1) := by decide +kernel
theorem dX10_meanWarmth_50 : decode cX10_meanWarmth 50 = .ok (.iload_n 2, 1) := by decide +kernel
theorem dX10_meanWarmth_51 : decode cX10_meanWarmth 51 = .ok (.iload 4, 2) := by decide +kernel
theorem dX10_meanWarmth_53 : decode cX10_meanWarmth 53 = .ok (.ifCond .eq 7, 3) := by decide +kernel
theorem dX10_meanWarmth_56 : decode cX10_meanWarmth 56 = .ok (.iconst 1, 1) := by decide +kernel
theorem dX10_meanWarmth_57 : decode cX10_meanWarmth 57 = .ok (.goto 4, 3) := by decide +kernel
theorem dX10_meanWarmth_60 : decode cX10_meanWarmth 60 = .ok (.iconst 0, 1) := by decide +kernel
theorem dX10_meanWarmth_61 : decode cX10_meanWarmth 61 = .ok (.iadd, 1) := by decide +kernel
theorem dX10_meanWarmth_62 : decode cX10_meanWarmth 62 = .ok (.istore_n 2, 1) := by decide +kernel
theorem dX10_meanWarmth_63 : decode cX10_meanWarmth 63 = .ok (.iinc 3 1, 3) := by decide +kernel
theorem dX10_meanWarmth_66 : decode cX10_meanWarmth 66 = .ok (.goto (-60), 3) := by decide +kernel
theorem dX10_meanWarmth_69 : decode cX10_meanWarmth 69 = .ok (.aload_n 0, 1) := by decide +kernel
theorem dX10_meanWarmth_70 : decode cX10_meanWarmth 70 = .ok (.iload_n 2, 1) := by decide +kernel
theorem dX10_meanWarmth_71 : decode cX10_meanWarmth 71 = .ok (.ifCond .ne 7, 3) := by decide +kernel
theorem dX10_meanWarmth_74 : decode cX10_meanWarmth 74 = .ok (.iconst 1, 1) := by decide +kernel
theorem dX10_meanWarmth_75 : decode cX10_meanWarmth 75 = .ok (.goto 4, 3) := by decide +kernel
theorem dX10_meanWarmth_78 : decode cX10_meanWarmth 78 = .ok (.iconst 0, 1) := by decide +kernel
theorem dX10_meanWarmth_79 : decode cX10_meanWarmth 79 = .ok (.putfield 63, 3) := by decide +kernel
theorem dX10_meanWarmth_82 : decode cX10_meanWarmth 82 = .ok (.aload_n 0, 1) := by decide +kernel
theorem dX10_meanWarmth_83 : decode cX10_meanWarmth 83 = .ok (.getfield 63, 3) := by decide +kernel
theorem dX10_meanWarmth_86 : decode cX10_meanWarmth 86 = .ok (.ifCond .le 7, 3) := by decide +kernel
theorem dX10_meanWarmth_89 : decode cX10_meanWarmth 89 = .ok (.dconst 0, 1) := by decide +kernel
theorem dX10_meanWarmth_90 : decode cX10_meanWarmth 90 = .ok (.goto 8, 3) := by decide +kernel
theorem dX10_meanWarmth_93 : decode cX10_meanWarmth 93 = .ok (.iload_n 1, 1) := by decide +kernel
theorem dX10_meanWarmth_94 : decode cX10_meanWarmth 94 = .ok (.i2d, 1) := by decide +kernel
theorem dX10_meanWarmth_95 : decode cX10_meanWarmth 95 = .ok (.iload_n 2, 1) := by decide +kernel
theorem dX10_meanWarmth_96 : decode cX10_meanWarmth 96 = .ok (.i2d, 1) := by decide +kernel
theorem dX10_meanWarmth_97 : decode cX10_meanWarmth 97 = .ok (.ddiv, 1) := by decide +kernel
theorem dX10_meanWarmth_98 : decode cX10_meanWarmth 98 = .ok (.dreturn, 1) := by decide +kernel
theorem dX10_bathedShare_0 : decode cX10_bathedShare 0 = .ok (.aload_n 0, 1) := by decide +kernel
theorem dX10_bathedShare_1 : decode cX10_bathedShare 1 = .ok (.aload_n 0, 1) := by decide +kernel
theorem dX10_bathedShare_2 : decode cX10_bathedShare 2 = .ok (.getfield 9, 3) := by decide +kernel
theorem dX10_bathedShare_5 : decode cX10_bathedShare 5 = .ok (.bipush 8, 2) := by decide +kernel
theorem dX10_bathedShare_7 : decode cX10_bathedShare 7 = .ok (.iaload, 1) := by decide +kernel
theorem dX10_bathedShare_8 : decode cX10_bathedShare 8 = .ok (.ifCond .ne 7, 3) := by decide +kernel
theorem dX10_bathedShare_11 : decode cX10_bathedShare 11 = .ok (.iconst 1, 1) := by decide +kernel
theorem dX10_bathedShare_12 : decode cX10_bathedShare 12 = .ok (.goto 4, 3) := by decide +kernel
theorem dX10_bathedShare_15 : decode cX10_bathedShare 15 = .ok (.iconst 0, 1) := by decide +kernel
theorem dX10_bathedShare_16 : decode cX10_bathedShare 16 = .ok (.putfield 63, 3) := by decide +kernel
theorem dX10_bathedShare_19 : decode cX10_bathedShare 19 = .ok (.aload_n 0, 1) := by decide +kernel
theorem dX10_bathedShare_20 : decode cX10_bathedShare 20 = .ok (.getfield 63, 3) := by decide +kernel
theorem dX10_bathedShare_23 : decode cX10_bathedShare 23 = .ok (.ifCond .le 7, 3) := by decide +kernel
theorem dX10_bathedShare_26 : decode cX10_bathedShare 26 = .ok (.fconst 0, 1) := by decide +kernel
theorem dX10_bathedShare_27 : decode cX10_bathedShare 27 = .ok (.goto 20, 3) := by decide +kernel
theorem dX10_bathedShare_30 : decode cX10_bathedShare 30 = .ok (.aload_n 0, 1) := by decide +kernel
theorem dX10_bathedShare_31 : decode cX10_bathedShare 31 = .ok (.getfield 9, 3) := by decide +kernel
theorem dX10_bathedShare_34 : decode cX10_bathedShare 34 = .ok (.bipush 9, 2) := by decide +kernel
theorem dX10_bathedShare_36 : decode cX10_bathedShare 36 = .ok (.iaload, 1) := by decide +kernel
theorem dX10_bathedShare_37 : decode cX10_bathedShare 37 = .ok (.i2f, 1) := by decide +kernel
theorem dX10_bathedShare_38 : decode cX10_bathedShare 38 = .ok (.aload_n 0, 1) := by decide +kernel
theorem dX10_bathedShare_39 : decode cX10_bathedShare 39 = .ok (.getfield 9, 3) := by decide +kernel
theorem dX10_bathedShare_42 : decode cX10_bathedShare 42 = .ok (.bipush 8, 2) := by decide +kernel
theorem dX10_bathedShare_44 : decode cX10_bathedShare 44 = .ok (.iaload, 1) := by decide +kernel
theorem dX10_bathedShare_45 : decode cX10_bathedShare 45 = .ok (.i2f, 1) := by decide +kernel
theorem dX10_bathedShare_46 : decode cX10_bathedShare 46 = .ok (.fdiv, 1) := by decide +kernel
theorem dX10_bathedShare_47 : decode cX10_bathedShare 47 = .ok (.freturn, 1) := by decide +kernel
theorem dX10_feed_0 : decode cX10_feed 0 = .ok (.aload_n 0, 1) := by decide +kernel
theorem dX10_feed_1 : decode cX10_feed 1 = .ok (.aload_n 0, 1) := by decide +kernel
theorem dX10_feed_2 : decode cX10_feed 2 = .ok (.getfield 244, 3) := by decide +kernel
theorem dX10_feed_5 : decode cX10_feed 5 = .ok (.bipush 60, 2) := by decide +kernel
theorem dX10_feed_7 : decode cX10_feed 7 = .ok (.if_icmp .ne 7, 3) := by decide +kernel
theorem dX10_feed_10 : decode cX10_feed 10 = .ok (.iconst 1, 1) := by decide +kernel
theorem dX10_feed_11 : decode cX10_feed 11 = .ok (.goto 4, 3) := by decide +kernel
theorem dX10_feed_14 : decode cX10_feed 14 = .ok (.iconst 0, 1) := by decide +kernel
theorem dX10_feed_15 : decode cX10_feed 15 = .ok (.putfield 63, 3) := by decide +kernel
theorem dX10_feed_18 : decode cX10_feed 18 = .ok (.aload_n 0, 1) := by decide +kernel
theorem dX10_feed_19 : decode cX10_feed 19 = .ok (.getfield 63, 3) := by decide +kernel
theorem dX10_feed_22 : decode cX10_feed 22 = .ok (.ifCond .le 5, 3) := by decide +kernel
theorem dX10_feed_25 : decode cX10_feed 25 = .ok (.iconst 0, 1) := by decide +kernel
theorem dX10_feed_26 : decode cX10_feed 26 = .ok (.ireturn, 1) := by decide +kernel
theorem dX10_feed_27 : decode cX10_feed 27 = .ok (.aload_n 0, 1) := by decide +kernel
theorem dX10_feed_28 : decode cX10_feed 28 = .ok (.getfield 53, 3) := by decide +kernel
theorem dX10_feed_31 : decode cX10_feed 31 = .ok (.aload_n 0, 1) := by decide +kernel
theorem dX10_feed_32 : decode cX10_feed 32 = .ok (.getfield 244, 3) := by decide +kernel
theorem dX10_feed_35 : decode cX10_feed 35 = .ok (.iload_n 1, 1) := by decide +kernel
theorem dX10_feed_36 : decode cX10_feed 36 = .ok (.castore, 1) := by decide +kernel
theorem dX10_feed_37 : decode cX10_feed 37 = .ok (.aload_n 0, 1) := by decide +kernel
theorem dX10_feed_38 : decode cX10_feed 38 = .ok (.dup, 1) := by decide +kernel
theorem dX10_feed_39 : decode cX10_feed 39 = .ok (.getfield 244, 3) := by decide +kernel
theorem dX10_feed_42 : decode cX10_feed 42 = .ok (.iconst 1, 1) := by decide +kernel
theorem dX10_feed_43 : decode cX10_feed 43 = .ok (.iadd, 1) := by decide +kernel
theorem dX10_feed_44 : decode cX10_feed 44 = .ok (.putfield 244, 3) := by decide +kernel
theorem dX10_feed_47 : decode cX10_feed 47 = .ok (.aload_n 0, 1) := by decide +kernel
theorem dX10_feed_48 : decode cX10_feed 48 = .ok (.getfield 244, 3) := by decide +kernel
theorem dX10_feed_51 : decode cX10_feed 51 = .ok (.ireturn, 1) := by decide +kernel
theorem dX10_isHere_0 : decode cX10_isHere 0 = .ok (.aload_n 0, 1) := by decide +kernel
theorem dX10_isHere_1 : decode cX10_isHere 1 = .ok (.getfield 246, 3) := by decide +kernel
theorem dX10_isHere_4 : decode cX10_isHere 4 = .ok (.ifCond .ne 35, 3) := by decide +kernel
theorem dX10_isHere_7 : decode cX10_isHere 7 = .ok (.aload_n 0, 1) := by decide +kernel
theorem dX10_isHere_8 : decode cX10_isHere 8 = .ok (.getfield 249, 3) := by decide +kernel
theorem dX10_isHere_11 : decode cX10_isHere 11 = .ok (.aload_n 0, 1) := by decide +kernel
theorem dX10_isHere_12 : decode cX10_isHere 12 = .ok (.getfield 244, 3) := by decide +kernel
theorem dX10_isHere_15 : decode cX10_isHere 15 = .ok (.if_icmp .ge 24, 3) := by decide +kernel
theorem dX10_isHere_18 : decode cX10_isHere 18 = .ok (.aload_n 0, 1) := by decide +kernel
theorem dX10_isHere_19 : decode cX10_isHere 19 = .ok (.getfield 53, 3) := by decide +kernel
theorem dX10_isHere_22 : decode cX10_isHere 22 = .ok (.aload_n 0, 1) := by decide +kernel
theorem dX10_isHere_23 : decode cX10_isHere 23 = .ok (.getfield 249, 3) := by decide +kernel
theorem dX10_isHere_26 : decode cX10_isHere 26 = .ok (.caload, 1) := by decide +kernel
theorem dX10_isHere_27 : decode cX10_isHere 27 = .ok (.iload_n 1, 1) := by decide +kernel
theorem dX10_isHere_28 : decode cX10_isHere 28 = .ok (.iload_n 2, 1) := by decide +kernel
theorem dX10_isHere_29 : decode cX10_isHere 29 = .ok (.invokestatic 85, 3) := by decide +kernel
theorem dX10_isHere_32 : decode cX10_isHere 32 = .ok (.ifCond .eq 7, 3) := by decide +kernel
theorem dX10_isHere_35 : decode cX10_isHere 35 = .ok (.iconst 1, 1) := by decide +kernel
theorem dX10_isHere_36 : decode cX10_isHere 36 = .ok (.goto 4, 3) := by decide +kernel
theorem dX10_isHere_39 : decode cX10_isHere 39 = .ok (.iconst 0, 1) := by decide +kernel
theorem dX10_isHere_40 : decode cX10_isHere 40 = .ok (.ireturn, 1) := by decide +kernel
theorem dX10_sign_0 : decode cX10_sign 0 = .ok (.aload_n 0, 1) := by decide +kernel
theorem dX10_sign_1 : decode cX10_sign 1 = .ok (.aload_n 0, 1) := by decide +kernel
theorem dX10_sign_2 : decode cX10_sign 2 = .ok (.iload_n 1, 1) := by decide +kernel
theorem dX10_sign_3 : decode cX10_sign 3 = .ok (.iload_n 2, 1) := by decide +kernel
theorem dX10_sign_4 : decode cX10_sign 4 = .ok (.invokevirtual 252, 3) := by decide +kernel
theorem dX10_sign_7 : decode cX10_sign 7 = .ok (.ifCond .ne 7, 3) := by decide +kernel
theorem dX10_sign_10 : decode cX10_sign 10 = .ok (.iconst 1, 1) := by decide +kernel
theorem dX10_sign_11 : decode cX10_sign 11 = .ok (.goto 4, 3) := by decide +kernel
theorem dX10_sign_14 : decode cX10_sign 14 = .ok (.iconst 0, 1) := by decide +kernel
theorem dX10_sign_15 : decode cX10_sign 15 = .ok (.putfield 246, 3) := by decide +kernel
theorem dX10_sign_18 : decode cX10_sign 18 = .ok (.aload_n 0, 1) := by decide +kernel
theorem dX10_sign_19 : decode cX10_sign 19 = .ok (.getfield 246, 3) := by decide +kernel
theorem dX10_sign_22 : decode cX10_sign 22 = .ok (.ifCond .eq 5, 3) := by decide +kernel
theorem dX10_sign_25 : decode cX10_sign 25 = .ok (.iconst 0, 1) := by decide +kernel
theorem dX10_sign_26 : decode cX10_sign 26 = .ok (.ireturn, 1) := by decide +kernel
theorem dX10_sign_27 : decode cX10_sign 27 = .ok (.aload_n 0, 1) := by decide +kernel
theorem dX10_sign_28 : decode cX10_sign 28 = .ok (.dup, 1) := by decide +kernel
theorem dX10_sign_29 : decode cX10_sign 29 = .ok (.getfield 249, 3) := by decide +kernel
theorem dX10_sign_32 : decode cX10_sign 32 = .ok (.iconst 1, 1) := by decide +kernel
theorem dX10_sign_33 : decode cX10_sign 33 = .ok (.iadd, 1) := by decide +kernel
theorem dX10_sign_34 : decode cX10_sign 34 = .ok (.putfield 249, 3) := by decide +kernel
theorem dX10_sign_37 : decode cX10_sign 37 = .ok (.aload_n 0, 1) := by decide +kernel
theorem dX10_sign_38 : decode cX10_sign 38 = .ok (.getfield 53, 3) := by decide +kernel
theorem dX10_sign_41 : decode cX10_sign 41 = .ok (.aload_n 0, 1) := by decide +kernel
theorem dX10_sign_42 : decode cX10_sign 42 = .ok (.getfield 249, 3) := by decide +kernel
theorem dX10_sign_45 : decode cX10_sign 45 = .ok (.iconst 1, 1) := by decide +kernel
theorem dX10_sign_46 : decode cX10_sign 46 = .ok (.isub, 1) := by decide +kernel
theorem dX10_sign_47 : decode cX10_sign 47 = .ok (.caload, 1) := by decide +kernel
theorem dX10_sign_48 : decode cX10_sign 48 = .ok (.iload_n 1, 1) := by decide +kernel
theorem dX10_sign_49 : decode cX10_sign 49 = .ok (.isub, 1) := by decide +kernel
theorem dX10_sign_50 : decode cX10_sign 50 = .ok (.ireturn, 1) := by decide +kernel
theorem dX10_digit_0 : decode cX10_digit 0 = .ok (.aload_n 0, 1) := by decide +kernel
theorem dX10_digit_1 : decode cX10_digit 1 = .ok (.bipush 48, 2) := by decide +kernel
theorem dX10_digit_3 : decode cX10_digit 3 = .ok (.bipush 57, 2) := by decide +kernel
theorem dX10_digit_5 : decode cX10_digit 5 = .ok (.invokevirtual 256, 3) := by decide +kernel
theorem dX10_digit_8 : decode cX10_digit 8 = .ok (.ireturn, 1) := by decide +kernel
theorem dX10_figures_0 : decode cX10_figures 0 = .ok (.aload_n 0, 1) := by decide +kernel
theorem dX10_figures_1 : decode cX10_figures 1 = .ok (.invokevirtual 260, 3) := by decide +kernel
theorem dX10_figures_4 : decode cX10_figures 4 = .ok (.istore_n 1, 1) := by decide +kernel
theorem dX10_figures_5 : decode cX10_figures 5 = .ok (.aload_n 0, 1) := by decide +kernel
theorem dX10_figures_6 : decode cX10_figures 6 = .ok (.bipush 48, 2) := by decide +kernel
theorem dX10_figures_8 : decode cX10_figures 8 = .ok (.bipush 57, 2) := by decide +kernel
theorem dX10_figures_10 : decode cX10_figures 10 = .ok (.invokevirtual 252, 3) := by decide +kernel
theorem dX10_figures_13 : decode cX10_figures 13 = .ok (.ifCond .eq 15, 3) := by decide +kernel
theorem dX10_figures_16 : decode cX10_figures 16 = .ok (.bipush 10, 2) := by decide +kernel
theorem dX10_figures_18 : decode cX10_figures 18 = .ok (.iload_n 1, 1) := by decide +kernel
theorem dX10_figures_19 : decode cX10_figures 19 = .ok (.imul, 1) := by decide +kernel
theorem dX10_figures_20 : decode cX10_figures 20 = .ok (.aload_n 0, 1) := by decide +kernel
theorem dX10_figures_21 : decode cX10_figures 21 = .ok (.invokevirtual 260, 3) := by decide +kernel
theorem dX10_figures_24 : decode cX10_figures 24 = .ok (.iadd, 1) := by decide +kernel
theorem dX10_figures_25 : decode cX10_figures 25 = .ok (.goto 4, 3) := by decide +kernel
theorem dX10_figures_28 : decode cX10_figures 28 = .ok (.iload_n 1, 1) := by decide +kernel
theorem dX10_figures_29 : decode cX10_figures 29 = .ok (.ireturn, 1) := by decide +kernel
theorem dX10_alike_0 : decode cX10_alike 0 = .ok (.iconst 0, 1) := by decide +kernel
theorem dX10_alike_1 : decode cX10_alike 1 = .ok (.istore_n 2, 1) := by decide +kernel
theorem dX10_alike_2 : decode cX10_alike 2 = .ok (.iload_n 2, 1) := by decide +kernel
theorem dX10_alike_3 : decode cX10_alike 3 = .ok (.aload_n 1, 1) := by decide +kernel
theorem dX10_alike_4 : decode cX10_alike 4 = .ok (.invokevirtual 198, 3) := by decide +kernel
theorem dX10_alike_7 : decode cX10_alike 7 = .ok (.if_icmp .ge 41, 3) := by decide +kernel
theorem dX10_alike_10 : decode cX10_alike 10 = .ok (.aload_n 0, 1) := by decide +kernel
theorem dX10_alike_11 : decode cX10_alike 11 = .ok (.getfield 249, 3) := by decide +kernel
theorem dX10_alike_14 : decode cX10_alike 14 = .ok (.iload_n 2, 1) := by decide +kernel
theorem dX10_alike_15 : decode cX10_alike 15 = .ok (.iadd, 1) := by decide +kernel
theorem dX10_alike_16 : decode cX10_alike 16 = .ok (.aload_n 0, 1) := by decide +kernel
theorem dX10_alike_17 : decode cX10_alike 17 = .ok (.getfield 244, 3) := by decide +kernel
theorem dX10_alike_20 : decode cX10_alike 20 = .ok (.if_icmp .ge 28, 3) := by decide +kernel
theorem dX10_alike_23 : decode cX10_alike 23 = .ok (.aload_n 0, 1) := by decide +kernel
theorem dX10_alike_24 : decode cX10_alike 24 = .ok (.getfield 53, 3) := by decide +kernel
theorem dX10_alike_27 : decode cX10_alike 27 = .ok (.aload_n 0, 1) := by decide +kernel
theorem dX10_alike_28 : decode cX10_alike 28 = .ok (.getfield 249, 3) := by decide +kernel
theorem dX10_alike_31 : decode cX10_alike 31 = .ok (.iload_n 2, 1) := by decide +kernel
theorem dX10_alike_32 : decode cX10_alike 32 = .ok (.iadd, 1) := by decide +kernel
theorem dX10_alike_33 : decode cX10_alike 33 = .ok (.caload, 1) := by decide +kernel
theorem dX10_alike_34 : decode cX10_alike 34 = .ok (.aload_n 1, 1) := by decide +kernel
theorem dX10_alike_35 : decode cX10_alike 35 = .ok (.iload_n 2, 1) := by decide +kernel
theorem dX10_alike_36 : decode cX10_alike 36 = .ok (.invokevirtual 204, 3) := by decide +kernel
theorem dX10_alike_39 : decode cX10_alike 39 = .ok (.if_icmp .ne 9, 3) := by decide +kernel
theorem dX10_alike_42 : decode cX10_alike 42 = .ok (.iinc 2 1, 3) := by decide +kernel
theorem dX10_alike_45 : decode cX10_alike 45 = .ok (.goto (-43), 3) := by decide +kernel
theorem dX10_alike_48 : decode cX10_alike 48 = .ok (.iload_n 2, 1) := by decide +kernel
theorem dX10_alike_49 : decode cX10_alike 49 = .ok (.ireturn, 1) := by decide +kernel
theorem dX10_readCommand_0 : decode cX10_readCommand 0 = .ok (.iconst 0, 1) := by decide +kernel
theorem dX10_readCommand_1 : decode cX10_readCommand 1 = .ok (.istore_n 1, 1) := by decide +kernel
theorem dX10_readCommand_2 : decode cX10_readCommand 2 = .ok (.iconst (-1), 1) := by decide +kernel
theorem dX10_readCommand_3 : decode cX10_readCommand 3 = .ok (.istore_n 2, 1) := by decide +kernel
theorem dX10_readCommand_4 : decode cX10_readCommand 4 = .ok (.iconst 0, 1) := by decide +kernel
theorem dX10_readCommand_5 : decode cX10_readCommand 5 = .ok (.istore_n 3, 1) := by decide +kernel
theorem dX10_readCommand_6 : decode cX10_readCommand 6 = .ok (.iload_n 3, 1) := by decide +kernel
theorem dX10_readCommand_7 : decode cX10_readCommand 7 = .ok (.aload_n 0, 1) := by decide +kernel
theorem dX10_readCommand_8 : decode cX10_readCommand 8 = .ok (.getfield 49, 3) := by decide +kernel
theorem dX10_readCommand_11 : decode cX10_readCommand 11 = .ok (.arraylength, 1) := by decide +kernel
theorem dX10_readCommand_12 : decode cX10_readCommand 12 = .ok (.if_icmp .ge 48, 3) := by decide +kernel
theorem dX10_readCommand_15 : decode cX10_readCommand 15 = .ok (.aload_n 0, 1) := by decide +kernel
theorem dX10_readCommand_16 : decode cX10_readCommand 16 = .ok (.aload_n 0, 1) := by decide +kernel
theorem dX10_readCommand_17 : decode cX10_readCommand 17 = .ok (.getfield 49, 3) := by decide +kernel
theorem dX10_readCommand_20 : decode cX10_readCommand 20 = .ok (.iload_n 3, 1) := by decide +kernel
theorem dX10_readCommand_21 : decode cX10_readCommand 21 = .ok (.aaload, 1) := by decide +kernel
theorem dX10_readCommand_22 : decode cX10_readCommand 22 = .ok (.invokevirtual 263, 3) := by decide +kernel
theorem dX10_readCommand_25 : decode cX10_readCommand 25 = .ok (.istore 4, 2) := by decide +kernel
theorem dX10_readCommand_27 : decode cX10_readCommand 27 = .ok (.iload 4, 2) := by decide +kernel
theorem dX10_readCommand_29 : decode cX10_readCommand 29 = .ok (.aload_n 0, 1) := by decide +kernel
theorem dX10_readCommand_30 : decode cX10_readCommand 30 = .ok (.getfield 49, 3) := by decide +kernel
theorem dX10_readCommand_33 : decode cX10_readCommand 33 = .ok (.iload_n 3, 1) := by decide +kernel
theorem dX10_readCommand_34 : decode cX10_readCommand 34 = .ok (.aaload, 1) := by decide +kernel
theorem dX10_readCommand_35 : decode cX10_readCommand 35 = .ok (.invokevirtual 198, 3) := by decide +kernel
theorem dX10_readCommand_38 : decode cX10_readCommand 38 = .ok (.if_icmp .ne 7, 3) := by decide +kernel
theorem dX10_readCommand_41 : decode cX10_readCommand 41 = .ok (.iload_n 3, 1) := by decide +kernel
theorem dX10_readCommand_42 : decode cX10_readCommand 42 = .ok (.goto 4, 3) := by decide +kernel
theorem dX10_readCommand_45 : decode cX10_readCommand 45 = .ok (.iload_n 2, 1) := by decide +kernel
theorem dX10_readCommand_46 : decode cX10_readCommand 46 = .ok (.istore_n 2, 1) := by decide +kernel
theorem dX10_readCommand_47 : decode cX10_readCommand 47 = .ok (.iload_n 1, 1) := by decide +kernel
theorem dX10_readCommand_48 : decode cX10_readCommand 48 = .ok (.iload 4, 2) := by decide +kernel
theorem dX10_readCommand_50 : decode cX10_readCommand 50 = .ok (.invokestatic 175, 3) := by decide +kernel
theorem dX10_readCommand_53 : decode cX10_readCommand 53 = .ok (.istore_n 1, 1) := by decide +kernel
theorem dX10_readCommand_54 : decode cX10_readCommand 54 = .ok (.iinc 3 1, 3) := by decide +kernel
theorem dX10_readCommand_57 : decode cX10_readCommand 57 = .ok (.goto (-51), 3) := by decide +kernel
theorem dX10_readCommand_60 : decode cX10_readCommand 60 = .ok (.aload_n 0, 1) := by decide +kernel
theorem dX10_readCommand_61 : decode cX10_readCommand 61 = .ok (.dup, 1) := by decide +kernel
theorem dX10_readCommand_62 : decode cX10_readCommand 62 = .ok (.getfield 249, 3) := by decide +kernel
theorem dX10_readCommand_65 : decode cX10_readCommand 65 = .ok (.iload_n 1, 1) := by decide +kernel
theorem dX10_readCommand_66 : decode cX10_readCommand 66 = .ok (.iadd, 1) := by decide +kernel
theorem dX10_readCommand_67 : decode cX10_readCommand 67 = .ok (.putfield 249, 3) := by decide +kernel
theorem dX10_readCommand_70 : decode cX10_readCommand 70 = .ok (.aload_n 0, 1) := by decide +kernel
theorem dX10_readCommand_71 : decode cX10_readCommand 71 = .ok (.iload_n 2, 1) := by decide +kernel
theorem dX10_readCommand_72 : decode cX10_readCommand 72 = .ok (.ifCond .ge 7, 3) := by decide +kernel
theorem dX10_readCommand_75 : decode cX10_readCommand 75 = .ok (.iconst 1, 1) := by decide +kernel
theorem dX10_readCommand_76 : decode cX10_readCommand 76 = .ok (.goto 4, 3) := by decide +kernel
theorem dX10_readCommand_79 : decode cX10_readCommand 79 = .ok (.iconst 0, 1) := by decide +kernel
theorem dX10_readCommand_80 : decode cX10_readCommand 80 = .ok (.putfield 246, 3) := by decide +kernel
theorem dX10_readCommand_83 : decode cX10_readCommand 83 = .ok (.aload_n 0, 1) := by decide +kernel
theorem dX10_readCommand_84 : decode cX10_readCommand 84 = .ok (.getfield 246, 3) := by decide +kernel
theorem dX10_readCommand_87 : decode cX10_readCommand 87 = .ok (.ifCond .eq 4, 3) := by decide +kernel
theorem dX10_readCommand_90 : decode cX10_readCommand 90 = .ok (.return_, 1) := by decide +kernel
theorem dX10_readCommand_91 : decode cX10_readCommand 91 = .ok (.iconst 3, 1) := by decide +kernel
theorem dX10_readCommand_92 : decode cX10_readCommand 92 = .ok (.aload_n 0, 1) := by decide +kernel
theorem dX10_readCommand_93 : decode cX10_readCommand 93 = .ok (.getfield 267, 3) := by decide +kernel
theorem dX10_readCommand_96 : decode cX10_readCommand 96 = .ok (.imul, 1) := by decide +kernel
theorem dX10_readCommand_97 : decode cX10_readCommand 97 = .ok (.istore_n 3, 1) := by decide +kernel
theorem dX10_readCommand_98 : decode cX10_readCommand 98 = .ok (.aload_n 0, 1) := by decide +kernel
theorem dX10_readCommand_99 : decode cX10_readCommand 99 = .ok (.getfield 60, 3) := by decide +kernel
theorem dX10_readCommand_102 : decode cX10_readCommand 102 = .ok (.iload_n 3, 1) := by decide +kernel
theorem dX10_readCommand_103 : decode cX10_readCommand 103 = .ok (.iload_n 2, 1) := by decide +kernel
theorem dX10_readCommand_104 : decode cX10_readCommand 104 = .ok (.iastore, 1) := by decide +kernel
theorem dX10_readCommand_105 : decode cX10_readCommand 105 = .ok (.aload_n 0, 1) := by decide +kernel
theorem dX10_readCommand_106 : decode cX10_readCommand 106 = .ok (.getfield 60, 3) := by decide +kernel
theorem dX10_readCommand_109 : decode cX10_readCommand 109 = .ok (.iload_n 3, 1) := by decide +kernel
theorem dX10_readCommand_110 : decode cX10_readCommand 110 = .ok (.iconst 1, 1) := by decide +kernel
theorem dX10_readCommand_111 : decode cX10_readCommand 111 = .ok (.iadd, 1) := by decide +kernel
theorem dX10_readCommand_112 : decode cX10_readCommand 112 = .ok (.iload_n 2, 1) := by decide +kernel
theorem dX10_readCommand_113 : decode cX10_readCommand 113 = .ok (.iconst 5, 1) := by decide +kernel
theorem dX10_readCommand_114 : decode cX10_readCommand 114 = .ok (.if_icmp .le 10, 3) := by decide +kernel
theorem dX10_readCommand_117 : decode cX10_readCommand 117 = .ok (.aload_n 0, 1) := by decide +kernel
theorem dX10_readCommand_118 : decode cX10_readCommand 118 = .ok (.invokevirtual 270, 3) := by decide +kernel
theorem dX10_readCommand_121 : decode cX10_readCommand 121 = .ok (.goto 7, 3) := by decide +kernel
theorem dX10_readCommand_124 : decode cX10_readCommand 124 = .ok (.aload_n 0, 1) := by decide +kernel
theorem dX10_readCommand_125 : decode cX10_readCommand 125 = .ok (.invokevirtual 260, 3) := by decide +kernel
theorem dX10_readCommand_128 : decode cX10_readCommand 128 = .ok (.iastore, 1) := by decide +kernel
theorem dX10_readCommand_129 : decode cX10_readCommand 129 = .ok (.iload_n 2, 1) := by decide +kernel
theorem dX10_readCommand_130 : decode cX10_readCommand 130 = .ok (.ifCond .eq 13, 3) := by decide +kernel
theorem dX10_readCommand_133 : decode cX10_readCommand 133 = .ok (.iload_n 2, 1) := by decide +kernel
theorem dX10_readCommand_134 : decode cX10_readCommand 134 = .ok (.iconst 2, 1) := by decide +kernel
theorem dX10_readCommand_135 : decode cX10_readCommand 135 = .ok (.if_icmp .eq 8, 3) := by decide +kernel
theorem dX10_readCommand_138 : decode cX10_readCommand 138 = .ok (.iload_n 2, 1) := by decide +kernel
theorem dX10_readCommand_139 : decode cX10_readCommand 139 = .ok (.iconst 5, 1) := by decide +kernel
theorem dX10_readCommand_140 : decode cX10_readCommand 140 = .ok (.if_icmp .ne 25, 3) := by decide +kernel
theorem dX10_readCommand_143 : decode cX10_readCommand 143 = .ok (.aload_n 0, 1) := by decide +kernel
theorem dX10_readCommand_144 : decode cX10_readCommand 144 = .ok (.bipush 32, 2) := by decide +kernel
theorem dX10_readCommand_146 : decode cX10_readCommand 146 = .ok (.bipush 32, 2) := by decide +kernel
theorem dX10_readCommand_148 : decode cX10_readCommand 148 = .ok (.invokevirtual 256, 3) := by decide +kernel
theorem dX10_readCommand_151 : decode cX10_readCommand 151 = .ok (.istore 4, 2) := by decide +kernel
theorem dX10_readCommand_153 : decode cX10_readCommand 153 = .ok (.aload_n 0, 1) := by decide +kernel
theorem dX10_readCommand_154 : decode cX10_readCommand 154 = .ok (.getfield 60, 3) := by decide +kernel
theorem dX10_readCommand_157 : decode cX10_readCommand 157 = .ok (.iload_n 3, 1) := by decide +kernel
theorem dX10_readCommand_158 : decode cX10_readCommand 158 = .ok (.iconst 2, 1) := by decide +kernel
theorem dX10_readCommand_159 : decode cX10_readCommand 159 = .ok (.iadd, 1) := by decide +kernel
theorem dX10_readCommand_160 : decode cX10_readCommand 160 = .ok (.aload_n 0, 1) := by decide +kernel
theorem dX10_readCommand_161 : decode cX10_readCommand 161 = .ok (.invokevirtual 260, 3) := by decide +kernel
theorem dX10_readCommand_164 : decode cX10_readCommand 164 = .ok (.iastore, 1) := by decide +kernel
theorem dX10_readCommand_165 : decode cX10_readCommand 165 = .ok (.aload_n 0, 1) := by decide +kernel
theorem dX10_readCommand_166 : decode cX10_readCommand 166 = .ok (.dup, 1) := by decide +kernel
theorem dX10_readCommand_167 : decode cX10_readCommand 167 = .ok (.getfield 267, 3) := by decide +kernel
theorem dX10_readCommand_170 : decode cX10_readCommand 170 = .ok (.iconst 1, 1) := by decide +kernel
theorem dX10_readCommand_171 : decode cX10_readCommand 171 = .ok (.iadd, 1) := by decide +kernel
theorem dX10_readCommand_172 : decode cX10_readCommand 172 = .ok (.putfield 267, 3) := by decide +kernel
theorem dX10_readCommand_175 : decode cX10_readCommand 175 = .ok (.return_, 1) := by decide +kernel
theorem dX10_does_0 : decode cX10_does 0 = .ok (.aload_n 0, 1) := by decide +kernel
theorem dX10_does_1 : decode cX10_does 1 = .ok (.getfield 60, 3) := by decide +kernel
theorem dX10_does_4 : decode cX10_does 4 = .ok (.iconst 3, 1) := by decide +kernel
theorem dX10_does_5 : decode cX10_does 5 = .ok (.iload_n 1, 1) := by decide +kernel
theorem dX10_does_6 : decode cX10_does 6 = .ok (.imul, 1) := by decide +kernel
theorem dX10_does_7 : decode cX10_does 7 = .ok (.iconst 1, 1) := by decide +kernel
theorem dX10_does_8 : decode cX10_does 8 = .ok (.iadd, 1) := by decide +kernel
theorem dX10_does_9 : decode cX10_does 9 = .ok (.iaload, 1) := by decide +kernel
theorem dX10_does_10 : decode cX10_does 10 = .ok (.istore_n 2, 1) := by decide +kernel
theorem dX10_does_11 : decode cX10_does 11 = .ok (.aload_n 0, 1) := by decide +kernel
theorem dX10_does_12 : decode cX10_does 12 = .ok (.getfield 60, 3) := by decide +kernel
theorem dX10_does_15 : decode cX10_does 15 = .ok (.iconst 3, 1) := by decide +kernel
theorem dX10_does_16 : decode cX10_does 16 = .ok (.iload_n 1, 1) := by decide +kernel
theorem dX10_does_17 : decode cX10_does 17 = .ok (.imul, 1) := by decide +kernel
theorem dX10_does_18 : decode cX10_does 18 = .ok (.iconst 2, 1) := by decide +kernel
theorem dX10_does_19 : decode cX10_does 19 = .ok (.iadd, 1) := by decide +kernel
theorem dX10_does_20 : decode cX10_does 20 = .ok (.iaload, 1) := by decide +kernel
theorem dX10_does_21 : decode cX10_does 21 = .ok (.istore_n 3, 1) := by decide +kernel
theorem dX10_does_22 : decode cX10_does 22 = .ok (.aload_n 0, 1) := by decide +kernel
theorem dX10_does_23 : decode cX10_does 23 = .ok (.getfield 60, 3) := by decide +kernel
theorem dX10_does_26 : decode cX10_does 26 = .ok (.iconst 3, 1) := by decide +kernel
theorem dX10_does_27 : decode cX10_does 27 = .ok (.iload_n 1, 1) := by decide +kernel
theorem dX10_does_28 : decode cX10_does 28 = .ok (.imul, 1) := by decide +kernel
theorem dX10_does_29 : decode cX10_does 29 = .ok (.iaload, 1) := by decide +kernel
theorem dX10_does_30 : decode cX10_does 30 = .ok (.tableswitch 129 0 7 #[46, 57, 67, 78, 88, 98, 109, 119], 46) := by decide +kernel
theorem dX10_does_76 : decode cX10_does 76 = .ok (.aload_n 0, 1) := by decide +kernel
theorem dX10_does_77 : decode cX10_does 77 = .ok (.iload_n 2, 1) := by decide +kernel
theorem dX10_does_78 : decode cX10_does 78 = .ok (.iload_n 3, 1) := by decide +kernel
theorem dX10_does_79 : decode cX10_does 79 = .ok (.invokevirtual 140, 3) := by decide +kernel
theorem dX10_does_82 : decode cX10_does 82 = .ok (.istore 4, 2) := by decide +kernel
theorem dX10_does_84 : decode cX10_does 84 = .ok (.goto 82, 3) := by decide +kernel
theorem dX10_does_87 : decode cX10_does 87 = .ok (.aload_n 0, 1) := by decide +kernel
theorem dX10_does_88 : decode cX10_does 88 = .ok (.iload_n 2, 1) := by decide +kernel
theorem dX10_does_89 : decode cX10_does 89 = .ok (.invokevirtual 143, 3) := by decide +kernel
theorem dX10_does_92 : decode cX10_does 92 = .ok (.istore 4, 2) := by decide +kernel
theorem dX10_does_94 : decode cX10_does 94 = .ok (.goto 72, 3) := by decide +kernel
theorem dX10_does_97 : decode cX10_does 97 = .ok (.aload_n 0, 1) := by decide +kernel
theorem dX10_does_98 : decode cX10_does 98 = .ok (.iload_n 2, 1) := by decide +kernel
theorem dX10_does_99 : decode cX10_does 99 = .ok (.iload_n 3, 1) := by decide +kernel
theorem dX10_does_100 : decode cX10_does 100 = .ok (.invokevirtual 158, 3) := by decide +kernel
theorem dX10_does_103 : decode cX10_does 103 = .ok (.istore 4, 2) := by decide +kernel
theorem dX10_does_105 : decode cX10_does 105 = .ok (.goto 61, 3) := by decide +kernel
theorem dX10_does_108 : decode cX10_does 108 = .ok (.aload_n 0, 1) := by decide +kernel
theorem dX10_does_109 : decode cX10_does 109 = .ok (.iload_n 2, 1) := by decide +kernel
theorem dX10_does_110 : decode cX10_does 110 = .ok (.invokevirtual 161, 3) := by decide +kernel
theorem dX10_does_113 : decode cX10_does 113 = .ok (.istore 4, 2) := by decide +kernel
theorem dX10_does_115 : decode cX10_does 115 = .ok (.goto 51, 3) := by decide +kernel
theorem dX10_does_118 : decode cX10_does 118 = .ok (.aload_n 0, 1) := by decide +kernel
theorem dX10_does_119 : decode cX10_does 119 = .ok (.iload_n 2, 1) := by decide +kernel
theorem dX10_does_120 : decode cX10_does 120 = .ok (.invokevirtual 146, 3) := by decide +kernel
theorem dX10_does_123 : decode cX10_does 123 = .ok (.istore 4, 2) := by decide +kernel
theorem dX10_does_125 : decode cX10_does 125 = .ok (.goto 41, 3) := by decide +kernel
theorem dX10_does_128 : decode cX10_does 128 = .ok (.aload_n 0, 1) := by decide +kernel
theorem dX10_does_129 : decode cX10_does 129 = .ok (.iload_n 2, 1) := by decide +kernel
theorem dX10_does_130 : decode cX10_does 130 = .ok (.iload_n 3, 1) := by decide +kernel
theorem dX10_does_131 : decode cX10_does 131 = .ok (.invokevirtual 128, 3) := by decide +kernel
theorem dX10_does_134 : decode cX10_does 134 = .ok (.istore 4, 2) := by decide +kernel
theorem dX10_does_136 : decode cX10_does 136 = .ok (.goto 30, 3) := by decide +kernel
theorem dX10_does_139 : decode cX10_does 139 = .ok (.aload_n 0, 1) := by decide +kernel
theorem dX10_does_140 : decode cX10_does 140 = .ok (.iload_n 2, 1) := by decide +kernel
theorem dX10_does_141 : decode cX10_does 141 = .ok (.invokevirtual 169, 3) := by decide +kernel
theorem dX10_does_144 : decode cX10_does 144 = .ok (.istore 4, 2) := by decide +kernel
theorem dX10_does_146 : decode cX10_does 146 = .ok (.goto 20, 3) := by decide +kernel
theorem dX10_does_149 : decode cX10_does 149 = .ok (.aload_n 0, 1) := by decide +kernel
theorem dX10_does_150 : decode cX10_does 150 = .ok (.iload_n 2, 1) := by decide +kernel
theorem dX10_does_151 : decode cX10_does 151 = .ok (.invokevirtual 172, 3) := by decide +kernel
theorem dX10_does_154 : decode cX10_does 154 = .ok (.istore 4, 2) := by decide +kernel
theorem dX10_does_156 : decode cX10_does 156 = .ok (.goto 10, 3) := by decide +kernel
theorem dX10_does_159 : decode cX10_does 159 = .ok (.aload_n 0, 1) := by decide +kernel
theorem dX10_does_160 : decode cX10_does 160 = .ok (.iload_n 2, 1) := by decide +kernel
theorem dX10_does_161 : decode cX10_does 161 = .ok (.invokevirtual 189, 3) := by decide +kernel
theorem dX10_does_164 : decode cX10_does 164 = .ok (.istore 4, 2) := by decide +kernel
theorem dX10_does_166 : decode cX10_does 166 = .ok (.return_, 1) := by decide +kernel
theorem dX10_read_0 : decode cX10_read 0 = .ok (.aload_n 0, 1) := by decide +kernel
theorem dX10_read_1 : decode cX10_read 1 = .ok (.iconst 0, 1) := by decide +kernel
theorem dX10_read_2 : decode cX10_read 2 = .ok (.putfield 249, 3) := by decide +kernel
theorem dX10_read_5 : decode cX10_read 5 = .ok (.aload_n 0, 1) := by decide +kernel
theorem dX10_read_6 : decode cX10_read 6 = .ok (.iconst 0, 1) := by decide +kernel
theorem dX10_read_7 : decode cX10_read 7 = .ok (.putfield 246, 3) := by decide +kernel
theorem dX10_read_10 : decode cX10_read 10 = .ok (.aload_n 0, 1) := by decide +kernel
theorem dX10_read_11 : decode cX10_read 11 = .ok (.iconst 0, 1) := by decide +kernel
theorem dX10_read_12 : decode cX10_read 12 = .ok (.putfield 267, 3) := by decide +kernel
theorem dX10_read_15 : decode cX10_read 15 = .ok (.aload_n 0, 1) := by decide +kernel
theorem dX10_read_16 : decode cX10_read 16 = .ok (.invokevirtual 273, 3) := by decide +kernel
theorem dX10_read_19 : decode cX10_read 19 = .ok (.aload_n 0, 1) := by decide +kernel
theorem dX10_read_20 : decode cX10_read 20 = .ok (.bipush 59, 2) := by decide +kernel
theorem dX10_read_22 : decode cX10_read 22 = .ok (.bipush 59, 2) := by decide +kernel
theorem dX10_read_24 : decode cX10_read 24 = .ok (.invokevirtual 252, 3) := by decide +kernel
theorem dX10_read_27 : decode cX10_read 27 = .ok (.ifCond .eq 20, 3) := by decide +kernel
theorem dX10_read_30 : decode cX10_read 30 = .ok (.aload_n 0, 1) := by decide +kernel
theorem dX10_read_31 : decode cX10_read 31 = .ok (.dup, 1) := by decide +kernel
theorem dX10_read_32 : decode cX10_read 32 = .ok (.getfield 249, 3) := by decide +kernel
theorem dX10_read_35 : decode cX10_read 35 = .ok (.iconst 1, 1) := by decide +kernel
theorem dX10_read_36 : decode cX10_read 36 = .ok (.iadd, 1) := by decide +kernel
theorem dX10_read_37 : decode cX10_read 37 = .ok (.putfield 249, 3) := by decide +kernel
theorem dX10_read_40 : decode cX10_read 40 = .ok (.aload_n 0, 1) := by decide +kernel
theorem dX10_read_41 : decode cX10_read 41 = .ok (.invokevirtual 273, 3) := by decide +kernel
theorem dX10_read_44 : decode cX10_read 44 = .ok (.goto (-25), 3) := by decide +kernel
theorem dX10_read_47 : decode cX10_read 47 = .ok (.aload_n 0, 1) := by decide +kernel
theorem dX10_read_48 : decode cX10_read 48 = .ok (.aload_n 0, 1) := by decide +kernel
theorem dX10_read_49 : decode cX10_read 49 = .ok (.getfield 246, 3) := by decide +kernel
theorem dX10_read_52 : decode cX10_read 52 = .ok (.ifCond .ne 14, 3) := by decide +kernel
theorem dX10_read_55 : decode cX10_read 55 = .ok (.aload_n 0, 1) := by decide +kernel
theorem dX10_read_56 : decode cX10_read 56 = .ok (.getfield 249, 3) := by decide +kernel
theorem dX10_read_59 : decode cX10_read 59 = .ok (.aload_n 0, 1) := by decide +kernel
theorem dX10_read_60 : decode cX10_read 60 = .ok (.getfield 244, 3) := by decide +kernel
theorem dX10_read_63 : decode cX10_read 63 = .ok (.if_icmp .ge 7, 3) := by decide +kernel
theorem dX10_read_66 : decode cX10_read 66 = .ok (.iconst 1, 1) := by decide +kernel
theorem dX10_read_67 : decode cX10_read 67 = .ok (.goto 4, 3) := by decide +kernel
theorem dX10_read_70 : decode cX10_read 70 = .ok (.iconst 0, 1) := by decide +kernel
theorem dX10_read_71 : decode cX10_read 71 = .ok (.putfield 246, 3) := by decide +kernel
theorem dX10_read_74 : decode cX10_read 74 = .ok (.aload_n 0, 1) := by decide +kernel
theorem dX10_read_75 : decode cX10_read 75 = .ok (.iconst 0, 1) := by decide +kernel
theorem dX10_read_76 : decode cX10_read 76 = .ok (.putfield 244, 3) := by decide +kernel
theorem dX10_read_79 : decode cX10_read 79 = .ok (.aload_n 0, 1) := by decide +kernel
theorem dX10_read_80 : decode cX10_read 80 = .ok (.getfield 246, 3) := by decide +kernel
theorem dX10_read_83 : decode cX10_read 83 = .ok (.ifCond .eq 17, 3) := by decide +kernel
theorem dX10_read_86 : decode cX10_read 86 = .ok (.aload_n 0, 1) := by decide +kernel
theorem dX10_read_87 : decode cX10_read 87 = .ok (.aload_n 0, 1) := by decide +kernel
theorem dX10_read_88 : decode cX10_read 88 = .ok (.getfield 249, 3) := by decide +kernel
theorem dX10_read_91 : decode cX10_read 91 = .ok (.putfield 56, 3) := by decide +kernel
theorem dX10_read_94 : decode cX10_read 94 = .ok (.aload_n 0, 1) := by decide +kernel
theorem dX10_read_95 : decode cX10_read 95 = .ok (.iconst 1, 1) := by decide +kernel
theorem dX10_read_96 : decode cX10_read 96 = .ok (.invokevirtual 104, 3) := by decide +kernel
theorem dX10_read_99 : decode cX10_read 99 = .ok (.ireturn, 1) := by decide +kernel
theorem dX10_read_100 : decode cX10_read 100 = .ok (.aload_n 0, 1) := by decide +kernel
theorem dX10_read_101 : decode cX10_read 101 = .ok (.invokevirtual 101, 3) := by decide +kernel
theorem dX10_read_104 : decode cX10_read 104 = .ok (.iconst 0, 1) := by decide +kernel
theorem dX10_read_105 : decode cX10_read 105 = .ok (.istore_n 1, 1) := by decide +kernel
theorem dX10_read_106 : decode cX10_read 106 = .ok (.iload_n 1, 1) := by decide +kernel
theorem dX10_read_107 : decode cX10_read 107 = .ok (.aload_n 0, 1) := by decide +kernel
theorem dX10_read_108 : decode cX10_read 108 = .ok (.getfield 267, 3) := by decide +kernel
theorem dX10_read_111 : decode cX10_read 111 = .ok (.if_icmp .ge 57, 3) := by decide +kernel
theorem dX10_read_114 : decode cX10_read 114 = .ok (.aload_n 0, 1) := by decide +kernel
theorem dX10_read_115 : decode cX10_read 115 = .ok (.iconst 0, 1) := by decide +kernel
theorem dX10_read_116 : decode cX10_read 116 = .ok (.putfield 81, 3) := by decide +kernel
theorem dX10_read_119 : decode cX10_read 119 = .ok (.aload_n 0, 1) := by decide +kernel
theorem dX10_read_120 : decode cX10_read 120 = .ok (.iload_n 1, 1) := by decide +kernel
theorem dX10_read_121 : decode cX10_read 121 = .ok (.invokevirtual 276, 3) := by decide +kernel
theorem dX10_read_124 : decode cX10_read 124 = .ok (.aload_n 0, 1) := by decide +kernel
theorem dX10_read_125 : decode cX10_read 125 = .ok (.getfield 63, 3) := by decide +kernel
theorem dX10_read_128 : decode cX10_read 128 = .ok (.ifCond .le 34, 3) := by decide +kernel
theorem dX10_read_131 : decode cX10_read 131 = .ok (.aload_n 0, 1) := by decide +kernel
theorem dX10_read_132 : decode cX10_read 132 = .ok (.getfield 81, 3) := by decide +kernel
theorem dX10_read_135 : decode cX10_read 135 = .ok (.ifCond .eq 7, 3) := by decide +kernel
theorem dX10_read_138 : decode cX10_read 138 = .ok (.iconst 0, 1) := by decide +kernel
theorem dX10_read_139 : decode cX10_read 139 = .ok (.goto 11, 3) := by decide +kernel
theorem dX10_read_142 : decode cX10_read 142 = .ok (.aload_n 0, 1) := by decide +kernel
theorem dX10_read_143 : decode cX10_read 143 = .ok (.iconst 2, 1) := by decide +kernel
theorem dX10_read_144 : decode cX10_read 144 = .ok (.bipush 20, 2) := by decide +kernel
theorem dX10_read_146 : decode cX10_read 146 = .ok (.iload_n 1, 1) := by decide +kernel
theorem dX10_read_147 : decode cX10_read 147 = .ok (.invokevirtual 108, 3) := by decide +kernel
theorem dX10_read_150 : decode cX10_read 150 = .ok (.istore_n 2, 1) := by decide +kernel
theorem dX10_read_151 : decode cX10_read 151 = .ok (.aload_n 0, 1) := by decide +kernel
theorem dX10_read_152 : decode cX10_read 152 = .ok (.iconst 2, 1) := by decide +kernel
theorem dX10_read_153 : decode cX10_read 153 = .ok (.putfield 63, 3) := by decide +kernel
theorem dX10_read_156 : decode cX10_read 156 = .ok (.aload_n 0, 1) := by decide +kernel
theorem dX10_read_157 : decode cX10_read 157 = .ok (.iconst 0, 1) := by decide +kernel
theorem dX10_read_158 : decode cX10_read 158 = .ok (.invokevirtual 116, 3) := by decide +kernel
theorem dX10_read_161 : decode cX10_read 161 = .ok (.ireturn, 1) := by decide +kernel
theorem dX10_read_162 : decode cX10_read 162 = .ok (.iinc 1 1, 3) := by decide +kernel
theorem dX10_read_165 : decode cX10_read 165 = .ok (.goto (-59), 3) := by decide +kernel
theorem dX10_read_168 : decode cX10_read 168 = .ok (.aload_n 0, 1) := by decide +kernel
theorem dX10_read_169 : decode cX10_read 169 = .ok (.aload_n 0, 1) := by decide +kernel
theorem dX10_read_170 : decode cX10_read 170 = .ok (.getfield 267, 3) := by decide +kernel
theorem dX10_read_173 : decode cX10_read 173 = .ok (.invokevirtual 116, 3) := by decide +kernel
theorem dX10_read_176 : decode cX10_read 176 = .ok (.ireturn, 1) := by decide +kernel
theorem dX10_faultPosition_0 : decode cX10_faultPosition 0 = .ok (.aload_n 0, 1) := by decide +kernel
theorem dX10_faultPosition_1 : decode cX10_faultPosition 1 = .ok (.aload_n 0, 1) := by decide +kernel
theorem dX10_faultPosition_2 : decode cX10_faultPosition 2 = .ok (.getfield 56, 3) := by decide +kernel
theorem dX10_faultPosition_5 : decode cX10_faultPosition 5 = .ok (.ifCond .ge 7, 3) := by decide +kernel
theorem dX10_faultPosition_8 : decode cX10_faultPosition 8 = .ok (.iconst 1, 1) := by decide +kernel
theorem dX10_faultPosition_9 : decode cX10_faultPosition 9 = .ok (.goto 4, 3) := by decide +kernel
theorem dX10_faultPosition_12 : decode cX10_faultPosition 12 = .ok (.iconst 0, 1) := by decide +kernel
theorem dX10_faultPosition_13 : decode cX10_faultPosition 13 = .ok (.putfield 63, 3) := by decide +kernel
theorem dX10_faultPosition_16 : decode cX10_faultPosition 16 = .ok (.aload_n 0, 1) := by decide +kernel
theorem dX10_faultPosition_17 : decode cX10_faultPosition 17 = .ok (.getfield 63, 3) := by decide +kernel
theorem dX10_faultPosition_20 : decode cX10_faultPosition 20 = .ok (.ifCond .le 7, 3) := by decide +kernel
theorem dX10_faultPosition_23 : decode cX10_faultPosition 23 = .ok (.iconst 0, 1) := by decide +kernel
theorem dX10_faultPosition_24 : decode cX10_faultPosition 24 = .ok (.goto 7, 3) := by decide +kernel
theorem dX10_faultPosition_27 : decode cX10_faultPosition 27 = .ok (.aload_n 0, 1) := by decide +kernel
theorem dX10_faultPosition_28 : decode cX10_faultPosition 28 = .ok (.getfield 56, 3) := by decide +kernel
theorem dX10_faultPosition_31 : decode cX10_faultPosition 31 = .ok (.ireturn, 1) := by decide +kernel
theorem dX10_undo_0 : decode cX10_undo 0 = .ok (.aload_n 0, 1) := by decide +kernel
theorem dX10_undo_1 : decode cX10_undo 1 = .ok (.aload_n 0, 1) := by decide +kernel
theorem dX10_undo_2 : decode cX10_undo 2 = .ok (.getfield 72, 3) := by decide +kernel
theorem dX10_undo_5 : decode cX10_undo 5 = .ok (.ifCond .ne 7, 3) := by decide +kernel
theorem dX10_undo_8 : decode cX10_undo 8 = .ok (.iconst 1, 1) := by decide +kernel
theorem dX10_undo_9 : decode cX10_undo 9 = .ok (.goto 4, 3) := by decide +kernel
theorem dX10_undo_12 : decode cX10_undo 12 = .ok (.iconst 0, 1) := by decide +kernel
theorem dX10_undo_13 : decode cX10_undo 13 = .ok (.putfield 63, 3) := by decide +kernel
theorem dX10_undo_16 : decode cX10_undo 16 = .ok (.aload_n 0, 1) := by decide +kernel
theorem dX10_undo_17 : decode cX10_undo 17 = .ok (.getfield 63, 3) := by decide +kernel
theorem dX10_undo_20 : decode cX10_undo 20 = .ok (.ifCond .le 5, 3) := by decide +kernel
theorem dX10_undo_23 : decode cX10_undo 23 = .ok (.iconst 0, 1) := by decide +kernel
theorem dX10_undo_24 : decode cX10_undo 24 = .ok (.ireturn, 1) := by decide +kernel
theorem dX10_undo_25 : decode cX10_undo 25 = .ok (.aload_n 0, 1) := by decide +kernel
theorem dX10_undo_26 : decode cX10_undo 26 = .ok (.dup, 1) := by decide +kernel
theorem dX10_undo_27 : decode cX10_undo 27 = .ok (.getfield 72, 3) := by decide +kernel
theorem dX10_undo_30 : decode cX10_undo 30 = .ok (.iconst 1, 1) := by decide +kernel
theorem dX10_undo_31 : decode cX10_undo 31 = .ok (.isub, 1) := by decide +kernel
theorem dX10_undo_32 : decode cX10_undo 32 = .ok (.putfield 72, 3) := by decide +kernel
theorem dX10_undo_35 : decode cX10_undo 35 = .ok (.aload_n 0, 1) := by decide +kernel
theorem dX10_undo_36 : decode cX10_undo 36 = .ok (.getfield 22, 3) := by decide +kernel
theorem dX10_undo_39 : decode cX10_undo 39 = .ok (.sipush 129, 3) := by decide +kernel
theorem dX10_undo_42 : decode cX10_undo 42 = .ok (.aload_n 0, 1) := by decide +kernel
theorem dX10_undo_43 : decode cX10_undo 43 = .ok (.getfield 72, 3) := by decide +kernel
theorem dX10_undo_46 : decode cX10_undo 46 = .ok (.imul, 1) := by decide +kernel
theorem dX10_undo_47 : decode cX10_undo 47 = .ok (.aload_n 0, 1) := by decide +kernel
theorem dX10_undo_48 : decode cX10_undo 48 = .ok (.getfield 9, 3) := by decide +kernel
theorem dX10_undo_51 : decode cX10_undo 51 = .ok (.iconst 0, 1) := by decide +kernel
theorem dX10_undo_52 : decode cX10_undo 52 = .ok (.sipush 129, 3) := by decide +kernel
theorem dX10_undo_55 : decode cX10_undo 55 = .ok (.invokestatic 66, 3) := by decide +kernel
theorem dX10_undo_58 : decode cX10_undo 58 = .ok (.aload_n 0, 1) := by decide +kernel
theorem dX10_undo_59 : decode cX10_undo 59 = .ok (.getfield 72, 3) := by decide +kernel
theorem dX10_undo_62 : decode cX10_undo 62 = .ok (.ireturn, 1) := by decide +kernel
theorem dX10_saveSnapshot_0 : decode cX10_saveSnapshot 0 = .ok (.aload_n 0, 1) := by decide +kernel
theorem dX10_saveSnapshot_1 : decode cX10_saveSnapshot 1 = .ok (.iconst 0, 1) := by decide +kernel
theorem dX10_saveSnapshot_2 : decode cX10_saveSnapshot 2 = .ok (.putfield 63, 3) := by decide +kernel
theorem dX10_saveSnapshot_5 : decode cX10_saveSnapshot 5 = .ok (.aload_n 0, 1) := by decide +kernel
theorem dX10_saveSnapshot_6 : decode cX10_saveSnapshot 6 = .ok (.getfield 9, 3) := by decide +kernel
theorem dX10_saveSnapshot_9 : decode cX10_saveSnapshot 9 = .ok (.iconst 0, 1) := by decide +kernel
theorem dX10_saveSnapshot_10 : decode cX10_saveSnapshot 10 = .ok (.aload_n 0, 1) := by decide +kernel
theorem dX10_saveSnapshot_11 : decode cX10_saveSnapshot 11 = .ok (.getfield 19, 3) := by decide +kernel
theorem dX10_saveSnapshot_14 : decode cX10_saveSnapshot 14 = .ok (.iconst 0, 1) := by decide +kernel
theorem dX10_saveSnapshot_15 : decode cX10_saveSnapshot 15 = .ok (.sipush 129, 3) := by decide +kernel
theorem dX10_saveSnapshot_18 : decode cX10_saveSnapshot 18 = .ok (.invokestatic 66, 3) := by decide +kernel
theorem dX10_saveSnapshot_21 : decode cX10_saveSnapshot 21 = .ok (.aload_n 0, 1) := by decide +kernel
theorem dX10_saveSnapshot_22 : decode cX10_saveSnapshot 22 = .ok (.iconst 1, 1) := by decide +kernel
theorem dX10_saveSnapshot_23 : decode cX10_saveSnapshot 23 = .ok (.putfield 279, 3) := by decide +kernel
theorem dX10_saveSnapshot_26 : decode cX10_saveSnapshot 26 = .ok (.aload_n 0, 1) := by decide +kernel
theorem dX10_saveSnapshot_27 : decode cX10_saveSnapshot 27 = .ok (.getfield 9, 3) := by decide +kernel
theorem dX10_saveSnapshot_30 : decode cX10_saveSnapshot 30 = .ok (.iconst 1, 1) := by decide +kernel
theorem dX10_saveSnapshot_31 : decode cX10_saveSnapshot 31 = .ok (.iaload, 1) := by decide +kernel
theorem dX10_saveSnapshot_32 : decode cX10_saveSnapshot 32 = .ok (.ireturn, 1) := by decide +kernel
theorem dX10_restoreSnapshot_0 : decode cX10_restoreSnapshot 0 = .ok (.aload_n 0, 1) := by decide +kernel
theorem dX10_restoreSnapshot_1 : decode cX10_restoreSnapshot 1 = .ok (.aload_n 0, 1) := by decide +kernel
theorem dX10_restoreSnapshot_2 : decode cX10_restoreSnapshot 2 = .ok (.getfield 279, 3) := by decide +kernel
theorem dX10_restoreSnapshot_5 : decode cX10_restoreSnapshot 5 = .ok (.ifCond .eq 7, 3) := by decide +kernel
theorem dX10_restoreSnapshot_8 : decode cX10_restoreSnapshot 8 = .ok (.iconst 0, 1) := by decide +kernel
theorem dX10_restoreSnapshot_9 : decode cX10_restoreSnapshot 9 = .ok (.goto 4, 3) := by decide +kernel
theorem dX10_restoreSnapshot_12 : decode cX10_restoreSnapshot 12 = .ok (.iconst 1, 1) := by decide +kernel
theorem dX10_restoreSnapshot_13 : decode cX10_restoreSnapshot 13 = .ok (.putfield 63, 3) := by decide +kernel
theorem dX10_restoreSnapshot_16 : decode cX10_restoreSnapshot 16 = .ok (.aload_n 0, 1) := by decide +kernel
theorem dX10_restoreSnapshot_17 : decode cX10_restoreSnapshot 17 = .ok (.getfield 63, 3) := by decide +kernel
theorem dX10_restoreSnapshot_20 : decode cX10_restoreSnapshot 20 = .ok (.ifCond .le 5, 3) := by decide +kernel
theorem dX10_restoreSnapshot_23 : decode cX10_restoreSnapshot 23 = .ok (.iconst 0, 1) := by decide +kernel
theorem dX10_restoreSnapshot_24 : decode cX10_restoreSnapshot 24 = .ok (.ireturn, 1) := by decide +kernel
theorem dX10_restoreSnapshot_25 : decode cX10_restoreSnapshot 25 = .ok (.aload_n 0, 1) := by decide +kernel
theorem dX10_restoreSnapshot_26 : decode cX10_restoreSnapshot 26 = .ok (.getfield 19, 3) := by decide +kernel
theorem dX10_restoreSnapshot_29 : decode cX10_restoreSnapshot 29 = .ok (.iconst 0, 1) := by decide +kernel
theorem dX10_restoreSnapshot_30 : decode cX10_restoreSnapshot 30 = .ok (.aload_n 0, 1) := by decide +kernel
theorem dX10_restoreSnapshot_31 : decode cX10_restoreSnapshot 31 = .ok (.getfield 9, 3) := by decide +kernel
theorem dX10_restoreSnapshot_34 : decode cX10_restoreSnapshot 34 = .ok (.iconst 0, 1) := by decide +kernel
theorem dX10_restoreSnapshot_35 : decode cX10_restoreSnapshot 35 = .ok (.sipush 129, 3) := by decide +kernel
theorem dX10_restoreSnapshot_38 : decode cX10_restoreSnapshot 38 = .ok (.invokestatic 66, 3) := by decide +kernel
theorem dX10_restoreSnapshot_41 : decode cX10_restoreSnapshot 41 = .ok (.aload_n 0, 1) := by decide +kernel
theorem dX10_restoreSnapshot_42 : decode cX10_restoreSnapshot 42 = .ok (.iconst 0, 1) := by decide +kernel
theorem dX10_restoreSnapshot_43 : decode cX10_restoreSnapshot 43 = .ok (.putfield 72, 3) := by decide +kernel
theorem dX10_restoreSnapshot_46 : decode cX10_restoreSnapshot 46 = .ok (.aload_n 0, 1) := by decide +kernel
theorem dX10_restoreSnapshot_47 : decode cX10_restoreSnapshot 47 = .ok (.getfield 9, 3) := by decide +kernel
theorem dX10_restoreSnapshot_50 : decode cX10_restoreSnapshot 50 = .ok (.iconst 1, 1) := by decide +kernel
theorem dX10_restoreSnapshot_51 : decode cX10_restoreSnapshot 51 = .ok (.iaload, 1) := by decide +kernel
theorem dX10_restoreSnapshot_52 : decode cX10_restoreSnapshot 52 = .ok (.ireturn, 1) := by decide +kernel
theorem dL_tub_0 : decode cL_tub 0 = .ok (.aload_n 2, 1) := by decide +kernel
theorem dL_tub_1 : decode cL_tub 1 = .ok (.iconst 0, 1) := by decide +kernel
theorem dL_tub_2 : decode cL_tub 2 = .ok (.aload_n 0, 1) := by decide +kernel
theorem dL_tub_3 : decode cL_tub 3 = .ok (.iload_n 1, 1) := by decide +kernel
theorem dL_tub_4 : decode cL_tub 4 = .ok (.invokevirtual 7, 3) := by decide +kernel
theorem dL_tub_7 : decode cL_tub 7 = .ok (.i2l, 1) := by decide +kernel
theorem dL_tub_8 : decode cL_tub 8 = .ok (.lastore, 1) := by decide +kernel
theorem dL_tub_9 : decode cL_tub 9 = .ok (.goto 9, 3) := by decide +kernel
theorem dL_tub_12 : decode cL_tub 12 = .ok (.astore_n 3, 1) := by decide +kernel
theorem dL_tub_13 : decode cL_tub 13 = .ok (.iconst 1, 1) := by decide +kernel
theorem dL_tub_14 : decode cL_tub 14 = .ok (.ireturn, 1) := by decide +kernel
theorem dL_tub_15 : decode cL_tub 15 = .ok (.astore_n 3, 1) := by decide +kernel
theorem dL_tub_16 : decode cL_tub 16 = .ok (.iconst 2, 1) := by decide +kernel
theorem dL_tub_17 : decode cL_tub 17 = .ok (.ireturn, 1) := by decide +kernel
theorem dL_tub_18 : decode cL_tub 18 = .ok (.iconst 0, 1) := by decide +kernel
theorem dL_tub_19 : decode cL_tub 19 = .ok (.ireturn, 1) := by decide +kernel
theorem dL_tubOf_0 : decode cL_tubOf 0 = .ok (.aload_n 3, 1) := by decide +kernel
theorem dL_tubOf_1 : decode cL_tubOf 1 = .ok (.iconst 0, 1) := by decide +kernel
theorem dL_tubOf_2 : decode cL_tubOf 2 = .ok (.aload_n 0, 1) := by decide +kernel
theorem dL_tubOf_3 : decode cL_tubOf 3 = .ok (.iload_n 1, 1) := by decide +kernel
theorem dL_tubOf_4 : decode cL_tubOf 4 = .ok (.iload_n 2, 1) := by decide +kernel
theorem dL_tubOf_5 : decode cL_tubOf 5 = .ok (.invokevirtual 17, 3) := by decide +kernel
theorem dL_tubOf_8 : decode cL_tubOf 8 = .ok (.i2l, 1) := by decide +kernel
theorem dL_tubOf_9 : decode cL_tubOf 9 = .ok (.lastore, 1) := by decide +kernel
theorem dL_tubOf_10 : decode cL_tubOf 10 = .ok (.goto 11, 3) := by decide +kernel
theorem dL_tubOf_13 : decode cL_tubOf 13 = .ok (.astore 4, 2) := by decide +kernel
theorem dL_tubOf_15 : decode cL_tubOf 15 = .ok (.iconst 1, 1) := by decide +kernel
theorem dL_tubOf_16 : decode cL_tubOf 16 = .ok (.ireturn, 1) := by decide +kernel
theorem dL_tubOf_17 : decode cL_tubOf 17 = .ok (.astore 4, 2) := by decide +kernel
theorem dL_tubOf_19 : decode cL_tubOf 19 = .ok (.iconst 2, 1) := by decide +kernel
theorem dL_tubOf_20 : decode cL_tubOf 20 = .ok (.ireturn, 1) := by decide +kernel
theorem dL_tubOf_21 : decode cL_tubOf 21 = .ok (.iconst 0, 1) := by decide +kernel
theorem dL_tubOf_22 : decode cL_tubOf 22 = .ok (.ireturn, 1) := by decide +kernel
theorem dL_torn_0 : decode cL_torn 0 = .ok (.aload_n 3, 1) := by decide +kernel
theorem dL_torn_1 : decode cL_torn 1 = .ok (.iconst 0, 1) := by decide +kernel
theorem dL_torn_2 : decode cL_torn 2 = .ok (.aload_n 0, 1) := by decide +kernel
theorem dL_torn_3 : decode cL_torn 3 = .ok (.iload_n 1, 1) := by decide +kernel
theorem dL_torn_4 : decode cL_torn 4 = .ok (.iload_n 2, 1) := by decide +kernel
theorem dL_torn_5 : decode cL_torn 5 = .ok (.invokevirtual 23, 3) := by decide +kernel
theorem dL_torn_8 : decode cL_torn 8 = .ok (.i2l, 1) := by decide +kernel
theorem dL_torn_9 : decode cL_torn 9 = .ok (.lastore, 1) := by decide +kernel
theorem dL_torn_10 : decode cL_torn 10 = .ok (.goto 11, 3) := by decide +kernel
theorem dL_torn_13 : decode cL_torn 13 = .ok (.astore 4, 2) := by decide +kernel
theorem dL_torn_15 : decode cL_torn 15 = .ok (.iconst 1, 1) := by decide +kernel
theorem dL_torn_16 : decode cL_torn 16 = .ok (.ireturn, 1) := by decide +kernel
theorem dL_torn_17 : decode cL_torn 17 = .ok (.astore 4, 2) := by decide +kernel
theorem dL_torn_19 : decode cL_torn 19 = .ok (.iconst 2, 1) := by decide +kernel
theorem dL_torn_20 : decode cL_torn 20 = .ok (.ireturn, 1) := by decide +kernel
theorem dL_torn_21 : decode cL_torn 21 = .ok (.iconst 0, 1) := by decide +kernel
theorem dL_torn_22 : decode cL_torn 22 = .ok (.ireturn, 1) := by decide +kernel
theorem dL_tear_0 : decode cL_tear 0 = .ok (.aload_n 3, 1) := by decide +kernel
theorem dL_tear_1 : decode cL_tear 1 = .ok (.iconst 0, 1) := by decide +kernel
theorem dL_tear_2 : decode cL_tear 2 = .ok (.aload_n 0, 1) := by decide +kernel
theorem dL_tear_3 : decode cL_tear 3 = .ok (.iload_n 1, 1) := by decide +kernel
theorem dL_tear_4 : decode cL_tear 4 = .ok (.iload_n 2, 1) := by decide +kernel
theorem dL_tear_5 : decode cL_tear 5 = .ok (.invokevirtual 28, 3) := by decide +kernel
theorem dL_tear_8 : decode cL_tear 8 = .ok (.i2l, 1) := by decide +kernel
theorem dL_tear_9 : decode cL_tear 9 = .ok (.lastore, 1) := by decide +kernel
theorem dL_tear_10 : decode cL_tear 10 = .ok (.goto 7, 3) := by decide +kernel
theorem dL_tear_13 : decode cL_tear 13 = .ok (.astore 4, 2) := by decide +kernel
theorem dL_tear_15 : decode cL_tear 15 = .ok (.iconst 1, 1) := by decide +kernel
theorem dL_tear_16 : decode cL_tear 16 = .ok (.ireturn, 1) := by decide +kernel
theorem dL_tear_17 : decode cL_tear 17 = .ok (.iconst 0, 1) := by decide +kernel
theorem dL_tear_18 : decode cL_tear 18 = .ok (.ireturn, 1) := by decide +kernel
theorem dL_mend_0 : decode cL_mend 0 = .ok (.aload_n 3, 1) := by decide +kernel
theorem dL_mend_1 : decode cL_mend 1 = .ok (.iconst 0, 1) := by decide +kernel
theorem dL_mend_2 : decode cL_mend 2 = .ok (.aload_n 0, 1) := by decide +kernel
theorem dL_mend_3 : decode cL_mend 3 = .ok (.iload_n 1, 1) := by decide +kernel
theorem dL_mend_4 : decode cL_mend 4 = .ok (.iload_n 2, 1) := by decide +kernel
theorem dL_mend_5 : decode cL_mend 5 = .ok (.invokevirtual 31, 3) := by decide +kernel
theorem dL_mend_8 : decode cL_mend 8 = .ok (.i2l, 1) := by decide +kernel
theorem dL_mend_9 : decode cL_mend 9 = .ok (.lastore, 1) := by decide +kernel
theorem dL_mend_10 : decode cL_mend 10 = .ok (.goto 11, 3) := by decide +kernel
theorem dL_mend_13 : decode cL_mend 13 = .ok (.astore 4, 2) := by decide +kernel
theorem dL_mend_15 : decode cL_mend 15 = .ok (.iconst 1, 1) := by decide +kernel
theorem dL_mend_16 : decode cL_mend 16 = .ok (.ireturn, 1) := by decide +kernel
theorem dL_mend_17 : decode cL_mend 17 = .ok (.astore 4, 2) := by decide +kernel
theorem dL_mend_19 : decode cL_mend 19 = .ok (.iconst 2, 1) := by decide +kernel
theorem dL_mend_20 : decode cL_mend 20 = .ok (.ireturn, 1) := by decide +kernel
theorem dL_mend_21 : decode cL_mend 21 = .ok (.iconst 0, 1) := by decide +kernel
theorem dL_mend_22 : decode cL_mend 22 = .ok (.ireturn, 1) := by decide +kernel
theorem dL_bestTub_0 : decode cL_bestTub 0 = .ok (.aload_n 1, 1) := by decide +kernel
theorem dL_bestTub_1 : decode cL_bestTub 1 = .ok (.iconst 0, 1) := by decide +kernel
theorem dL_bestTub_2 : decode cL_bestTub 2 = .ok (.aload_n 0, 1) := by decide +kernel
theorem dL_bestTub_3 : decode cL_bestTub 3 = .ok (.invokevirtual 34, 3) := by decide +kernel
theorem dL_bestTub_6 : decode cL_bestTub 6 = .ok (.i2l, 1) := by decide +kernel
theorem dL_bestTub_7 : decode cL_bestTub 7 = .ok (.lastore, 1) := by decide +kernel
theorem dL_bestTub_8 : decode cL_bestTub 8 = .ok (.goto 6, 3) := by decide +kernel
theorem dL_bestTub_11 : decode cL_bestTub 11 = .ok (.astore_n 2, 1) := by decide +kernel
theorem dL_bestTub_12 : decode cL_bestTub 12 = .ok (.iconst 1, 1) := by decide +kernel
theorem dL_bestTub_13 : decode cL_bestTub 13 = .ok (.ireturn, 1) := by decide +kernel
theorem dL_bestTub_14 : decode cL_bestTub 14 = .ok (.iconst 0, 1) := by decide +kernel
theorem dL_bestTub_15 : decode cL_bestTub 15 = .ok (.ireturn, 1) := by decide +kernel
theorem dL_out_0 : decode cL_out 0 = .ok (.aload_n 3, 1) := by decide +kernel
theorem dL_out_1 : decode cL_out 1 = .ok (.iconst 0, 1) := by decide +kernel
theorem dL_out_2 : decode cL_out 2 = .ok (.aload_n 0, 1) := by decide +kernel
theorem dL_out_3 : decode cL_out 3 = .ok (.iload_n 1, 1) := by decide +kernel
theorem dL_out_4 : decode cL_out 4 = .ok (.iload_n 2, 1) := by decide +kernel
theorem dL_out_5 : decode cL_out 5 = .ok (.invokevirtual 38, 3) := by decide +kernel
theorem dL_out_8 : decode cL_out 8 = .ok (.i2l, 1) := by decide +kernel
theorem dL_out_9 : decode cL_out 9 = .ok (.lastore, 1) := by decide +kernel
theorem dL_out_10 : decode cL_out 10 = .ok (.goto 11, 3) := by decide +kernel
theorem dL_out_13 : decode cL_out 13 = .ok (.astore 4, 2) := by decide +kernel
theorem dL_out_15 : decode cL_out 15 = .ok (.iconst 1, 1) := by decide +kernel
theorem dL_out_16 : decode cL_out 16 = .ok (.ireturn, 1) := by decide +kernel
theorem dL_out_17 : decode cL_out 17 = .ok (.astore 4, 2) := by decide +kernel
theorem dL_out_19 : decode cL_out 19 = .ok (.iconst 2, 1) := by decide +kernel
theorem dL_out_20 : decode cL_out 20 = .ok (.ireturn, 1) := by decide +kernel
theorem dL_out_21 : decode cL_out 21 = .ok (.iconst 0, 1) := by decide +kernel
theorem dL_out_22 : decode cL_out 22 = .ok (.ireturn, 1) := by decide +kernel
theorem dL_back_0 : decode cL_back 0 = .ok (.aload_n 2, 1) := by decide +kernel
theorem dL_back_1 : decode cL_back 1 = .ok (.iconst 0, 1) := by decide +kernel
theorem dL_back_2 : decode cL_back 2 = .ok (.aload_n 0, 1) := by decide +kernel
theorem dL_back_3 : decode cL_back 3 = .ok (.iload_n 1, 1) := by decide +kernel
theorem dL_back_4 : decode cL_back 4 = .ok (.invokevirtual 41, 3) := by decide +kernel
theorem dL_back_7 : decode cL_back 7 = .ok (.i2l, 1) := by decide +kernel
theorem dL_back_8 : decode cL_back 8 = .ok (.lastore, 1) := by decide +kernel
theorem dL_back_9 : decode cL_back 9 = .ok (.goto 9, 3) := by decide +kernel
theorem dL_back_12 : decode cL_back 12 = .ok (.astore_n 3, 1) := by decide +kernel
theorem dL_back_13 : decode cL_back 13 = .ok (.iconst 1, 1) := by decide +kernel
theorem dL_back_14 : decode cL_back 14 = .ok (.ireturn, 1) := by decide +kernel
theorem dL_back_15 : decode cL_back 15 = .ok (.astore_n 3, 1) := by decide +kernel
theorem dL_back_16 : decode cL_back 16 = .ok (.iconst 2, 1) := by decide +kernel
theorem dL_back_17 : decode cL_back 17 = .ok (.ireturn, 1) := by decide +kernel
theorem dL_back_18 : decode cL_back 18 = .ok (.iconst 0, 1) := by decide +kernel
theorem dL_back_19 : decode cL_back 19 = .ok (.ireturn, 1) := by decide +kernel
theorem dL_tent_0 : decode cL_tent 0 = .ok (.aload_n 2, 1) := by decide +kernel
theorem dL_tent_1 : decode cL_tent 1 = .ok (.iconst 0, 1) := by decide +kernel
theorem dL_tent_2 : decode cL_tent 2 = .ok (.aload_n 0, 1) := by decide +kernel
theorem dL_tent_3 : decode cL_tent 3 = .ok (.iload_n 1, 1) := by decide +kernel
theorem dL_tent_4 : decode cL_tent 4 = .ok (.invokevirtual 44, 3) := by decide +kernel
theorem dL_tent_7 : decode cL_tent 7 = .ok (.i2l, 1) := by decide +kernel
theorem dL_tent_8 : decode cL_tent 8 = .ok (.lastore, 1) := by decide +kernel
theorem dL_tent_9 : decode cL_tent 9 = .ok (.goto 9, 3) := by decide +kernel
theorem dL_tent_12 : decode cL_tent 12 = .ok (.astore_n 3, 1) := by decide +kernel
theorem dL_tent_13 : decode cL_tent 13 = .ok (.iconst 1, 1) := by decide +kernel
theorem dL_tent_14 : decode cL_tent 14 = .ok (.ireturn, 1) := by decide +kernel
theorem dL_tent_15 : decode cL_tent 15 = .ok (.astore_n 3, 1) := by decide +kernel
theorem dL_tent_16 : decode cL_tent 16 = .ok (.iconst 2, 1) := by decide +kernel
theorem dL_tent_17 : decode cL_tent 17 = .ok (.ireturn, 1) := by decide +kernel
theorem dL_tent_18 : decode cL_tent 18 = .ok (.iconst 0, 1) := by decide +kernel
theorem dL_tent_19 : decode cL_tent 19 = .ok (.ireturn, 1) := by decide +kernel
theorem dL_tentOf_0 : decode cL_tentOf 0 = .ok (.aload_n 3, 1) := by decide +kernel
theorem dL_tentOf_1 : decode cL_tentOf 1 = .ok (.iconst 0, 1) := by decide +kernel
theorem dL_tentOf_2 : decode cL_tentOf 2 = .ok (.aload_n 0, 1) := by decide +kernel
theorem dL_tentOf_3 : decode cL_tentOf 3 = .ok (.iload_n 1, 1) := by decide +kernel
theorem dL_tentOf_4 : decode cL_tentOf 4 = .ok (.iload_n 2, 1) := by decide +kernel
theorem dL_tentOf_5 : decode cL_tentOf 5 = .ok (.invokevirtual 47, 3) := by decide +kernel
theorem dL_tentOf_8 : decode cL_tentOf 8 = .ok (.i2l, 1) := by decide +kernel
theorem dL_tentOf_9 : decode cL_tentOf 9 = .ok (.lastore, 1) := by decide +kernel
theorem dL_tentOf_10 : decode cL_tentOf 10 = .ok (.goto 11, 3) := by decide +kernel
theorem dL_tentOf_13 : decode cL_tentOf 13 = .ok (.astore 4, 2) := by decide +kernel
theorem dL_tentOf_15 : decode cL_tentOf 15 = .ok (.iconst 1, 1) := by decide +kernel
theorem dL_tentOf_16 : decode cL_tentOf 16 = .ok (.ireturn, 1) := by decide +kernel
theorem dL_tentOf_17 : decode cL_tentOf 17 = .ok (.astore 4, 2) := by decide +kernel
theorem dL_tentOf_19 : decode cL_tentOf 19 = .ok (.iconst 2, 1) := by decide +kernel
theorem dL_tentOf_20 : decode cL_tentOf 20 = .ok (.ireturn, 1) := by decide +kernel
theorem dL_tentOf_21 : decode cL_tentOf 21 = .ok (.iconst 0, 1) := by decide +kernel
theorem dL_tentOf_22 : decode cL_tentOf 22 = .ok (.ireturn, 1) := by decide +kernel
theorem dL_waiting_0 : decode cL_waiting 0 = .ok (.aload_n 3, 1) := by decide +kernel
theorem dL_waiting_1 : decode cL_waiting 1 = .ok (.iconst 0, 1) := by decide +kernel
theorem dL_waiting_2 : decode cL_waiting 2 = .ok (.aload_n 0, 1) := by decide +kernel
theorem dL_waiting_3 : decode cL_waiting 3 = .ok (.iload_n 1, 1) := by decide +kernel
theorem dL_waiting_4 : decode cL_waiting 4 = .ok (.iload_n 2, 1) := by decide +kernel
theorem dL_waiting_5 : decode cL_waiting 5 = .ok (.invokevirtual 50, 3) := by decide +kernel
theorem dL_waiting_8 : decode cL_waiting 8 = .ok (.i2l, 1) := by decide +kernel
theorem dL_waiting_9 : decode cL_waiting 9 = .ok (.lastore, 1) := by decide +kernel
theorem dL_waiting_10 : decode cL_waiting 10 = .ok (.goto 11, 3) := by decide +kernel
theorem dL_waiting_13 : decode cL_waiting 13 = .ok (.astore 4, 2) := by decide +kernel
theorem dL_waiting_15 : decode cL_waiting 15 = .ok (.iconst 1, 1) := by decide +kernel
theorem dL_waiting_16 : decode cL_waiting 16 = .ok (.ireturn, 1) := by decide +kernel
theorem dL_waiting_17 : decode cL_waiting 17 = .ok (.astore 4, 2) := by decide +kernel
theorem dL_waiting_19 : decode cL_waiting 19 = .ok (.iconst 2, 1) := by decide +kernel
theorem dL_waiting_20 : decode cL_waiting 20 = .ok (.ireturn, 1) := by decide +kernel
theorem dL_waiting_21 : decode cL_waiting 21 = .ok (.iconst 0, 1) := by decide +kernel
theorem dL_waiting_22 : decode cL_waiting 22 = .ok (.ireturn, 1) := by decide +kernel
theorem dL_join_0 : decode cL_join 0 = .ok (.aload_n 2, 1) := by decide +kernel
theorem dL_join_1 : decode cL_join 1 = .ok (.iconst 0, 1) := by decide +kernel
theorem dL_join_2 : decode cL_join 2 = .ok (.aload_n 0, 1) := by decide +kernel
theorem dL_join_3 : decode cL_join 3 = .ok (.iload_n 1, 1) := by decide +kernel
theorem dL_join_4 : decode cL_join 4 = .ok (.invokevirtual 53, 3) := by decide +kernel
theorem dL_join_7 : decode cL_join 7 = .ok (.i2l, 1) := by decide +kernel
theorem dL_join_8 : decode cL_join 8 = .ok (.lastore, 1) := by decide +kernel
theorem dL_join_9 : decode cL_join 9 = .ok (.goto 9, 3) := by decide +kernel
theorem dL_join_12 : decode cL_join 12 = .ok (.astore_n 3, 1) := by decide +kernel
theorem dL_join_13 : decode cL_join 13 = .ok (.iconst 1, 1) := by decide +kernel
theorem dL_join_14 : decode cL_join 14 = .ok (.ireturn, 1) := by decide +kernel
theorem dL_join_15 : decode cL_join 15 = .ok (.astore_n 3, 1) := by decide +kernel
theorem dL_join_16 : decode cL_join 16 = .ok (.iconst 2, 1) := by decide +kernel
theorem dL_join_17 : decode cL_join 17 = .ok (.ireturn, 1) := by decide +kernel
theorem dL_join_18 : decode cL_join 18 = .ok (.iconst 0, 1) := by decide +kernel
theorem dL_join_19 : decode cL_join 19 = .ok (.ireturn, 1) := by decide +kernel
theorem dL_heater_0 : decode cL_heater 0 = .ok (.aload_n 1, 1) := by decide +kernel
theorem dL_heater_1 : decode cL_heater 1 = .ok (.iconst 0, 1) := by decide +kernel
theorem dL_heater_2 : decode cL_heater 2 = .ok (.aload_n 0, 1) := by decide +kernel
theorem dL_heater_3 : decode cL_heater 3 = .ok (.invokevirtual 56, 3) := by decide +kernel
theorem dL_heater_6 : decode cL_heater 6 = .ok (.i2l, 1) := by decide +kernel
theorem dL_heater_7 : decode cL_heater 7 = .ok (.lastore, 1) := by decide +kernel
theorem dL_heater_8 : decode cL_heater 8 = .ok (.goto 6, 3) := by decide +kernel
theorem dL_heater_11 : decode cL_heater 11 = .ok (.astore_n 2, 1) := by decide +kernel
theorem dL_heater_12 : decode cL_heater 12 = .ok (.iconst 1, 1) := by decide +kernel
theorem dL_heater_13 : decode cL_heater 13 = .ok (.ireturn, 1) := by decide +kernel
theorem dL_heater_14 : decode cL_heater 14 = .ok (.iconst 0, 1) := by decide +kernel
theorem dL_heater_15 : decode cL_heater 15 = .ok (.ireturn, 1) := by decide +kernel
theorem dL_heaterOf_0 : decode cL_heaterOf 0 = .ok (.aload_n 3, 1) := by decide +kernel
theorem dL_heaterOf_1 : decode cL_heaterOf 1 = .ok (.iconst 0, 1) := by decide +kernel
theorem dL_heaterOf_2 : decode cL_heaterOf 2 = .ok (.aload_n 0, 1) := by decide +kernel
theorem dL_heaterOf_3 : decode cL_heaterOf 3 = .ok (.iload_n 1, 1) := by decide +kernel
theorem dL_heaterOf_4 : decode cL_heaterOf 4 = .ok (.iload_n 2, 1) := by decide +kernel
theorem dL_heaterOf_5 : decode cL_heaterOf 5 = .ok (.invokevirtual 59, 3) := by decide +kernel
theorem dL_heaterOf_8 : decode cL_heaterOf 8 = .ok (.i2l, 1) := by decide +kernel
theorem dL_heaterOf_9 : decode cL_heaterOf 9 = .ok (.lastore, 1) := by decide +kernel
theorem dL_heaterOf_10 : decode cL_heaterOf 10 = .ok (.goto 7, 3) := by decide +kernel
theorem dL_heaterOf_13 : decode cL_heaterOf 13 = .ok (.astore 4, 2) := by decide +kernel
theorem dL_heaterOf_15 : decode cL_heaterOf 15 = .ok (.iconst 1, 1) := by decide +kernel
theorem dL_heaterOf_16 : decode cL_heaterOf 16 = .ok (.ireturn, 1) := by decide +kernel
theorem dL_heaterOf_17 : decode cL_heaterOf 17 = .ok (.iconst 0, 1) := by decide +kernel
theorem dL_heaterOf_18 : decode cL_heaterOf 18 = .ok (.ireturn, 1) := by decide +kernel
theorem dL_heat_0 : decode cL_heat 0 = .ok (.aload_n 3, 1) := by decide +kernel
theorem dL_heat_1 : decode cL_heat 1 = .ok (.iconst 0, 1) := by decide +kernel
theorem dL_heat_2 : decode cL_heat 2 = .ok (.aload_n 0, 1) := by decide +kernel
theorem dL_heat_3 : decode cL_heat 3 = .ok (.iload_n 1, 1) := by decide +kernel
theorem dL_heat_4 : decode cL_heat 4 = .ok (.iload_n 2, 1) := by decide +kernel
theorem dL_heat_5 : decode cL_heat 5 = .ok (.invokevirtual 63, 3) := by decide +kernel
theorem dL_heat_8 : decode cL_heat 8 = .ok (.i2l, 1) := by decide +kernel
theorem dL_heat_9 : decode cL_heat 9 = .ok (.lastore, 1) := by decide +kernel
theorem dL_heat_10 : decode cL_heat 10 = .ok (.goto 11, 3) := by decide +kernel
theorem dL_heat_13 : decode cL_heat 13 = .ok (.astore 4, 2) := by decide +kernel
theorem dL_heat_15 : decode cL_heat 15 = .ok (.iconst 1, 1) := by decide +kernel
theorem dL_heat_16 : decode cL_heat 16 = .ok (.ireturn, 1) := by decide +kernel
theorem dL_heat_17 : decode cL_heat 17 = .ok (.astore 4, 2) := by decide +kernel
theorem dL_heat_19 : decode cL_heat 19 = .ok (.iconst 2, 1) := by decide +kernel
theorem dL_heat_20 : decode cL_heat 20 = .ok (.ireturn, 1) := by decide +kernel
theorem dL_heat_21 : decode cL_heat 21 = .ok (.iconst 0, 1) := by decide +kernel
theorem dL_heat_22 : decode cL_heat 22 = .ok (.ireturn, 1) := by decide +kernel
theorem dL_cold_0 : decode cL_cold 0 = .ok (.aload_n 2, 1) := by decide +kernel
theorem dL_cold_1 : decode cL_cold 1 = .ok (.iconst 0, 1) := by decide +kernel
theorem dL_cold_2 : decode cL_cold 2 = .ok (.aload_n 0, 1) := by decide +kernel
theorem dL_cold_3 : decode cL_cold 3 = .ok (.iload_n 1, 1) := by decide +kernel
theorem dL_cold_4 : decode cL_cold 4 = .ok (.invokevirtual 66, 3) := by decide +kernel
theorem dL_cold_7 : decode cL_cold 7 = .ok (.i2l, 1) := by decide +kernel
theorem dL_cold_8 : decode cL_cold 8 = .ok (.lastore, 1) := by decide +kernel
theorem dL_cold_9 : decode cL_cold 9 = .ok (.goto 9, 3) := by decide +kernel
theorem dL_cold_12 : decode cL_cold 12 = .ok (.astore_n 3, 1) := by decide +kernel
theorem dL_cold_13 : decode cL_cold 13 = .ok (.iconst 1, 1) := by decide +kernel
theorem dL_cold_14 : decode cL_cold 14 = .ok (.ireturn, 1) := by decide +kernel
theorem dL_cold_15 : decode cL_cold 15 = .ok (.astore_n 3, 1) := by decide +kernel
theorem dL_cold_16 : decode cL_cold 16 = .ok (.iconst 2, 1) := by decide +kernel
theorem dL_cold_17 : decode cL_cold 17 = .ok (.ireturn, 1) := by decide +kernel
theorem dL_cold_18 : decode cL_cold 18 = .ok (.iconst 0, 1) := by decide +kernel
theorem dL_cold_19 : decode cL_cold 19 = .ok (.ireturn, 1) := by decide +kernel
theorem dL_gas_0 : decode cL_gas 0 = .ok (.aload_n 3, 1) := by decide +kernel
theorem dL_gas_1 : decode cL_gas 1 = .ok (.iconst 0, 1) := by decide +kernel
theorem dL_gas_2 : decode cL_gas 2 = .ok (.aload_n 0, 1) := by decide +kernel
theorem dL_gas_3 : decode cL_gas 3 = .ok (.iload_n 1, 1) := by decide +kernel
theorem dL_gas_4 : decode cL_gas 4 = .ok (.iload_n 2, 1) := by decide +kernel
theorem dL_gas_5 : decode cL_gas 5 = .ok (.invokevirtual 69, 3) := by decide +kernel
theorem dL_gas_8 : decode cL_gas 8 = .ok (.i2l, 1) := by decide +kernel
theorem dL_gas_9 : decode cL_gas 9 = .ok (.lastore, 1) := by decide +kernel
theorem dL_gas_10 : decode cL_gas 10 = .ok (.goto 15, 3) := by decide +kernel
theorem dL_gas_13 : decode cL_gas 13 = .ok (.astore 4, 2) := by decide +kernel
theorem dL_gas_15 : decode cL_gas 15 = .ok (.iconst 1, 1) := by decide +kernel
theorem dL_gas_16 : decode cL_gas 16 = .ok (.ireturn, 1) := by decide +kernel
theorem dL_gas_17 : decode cL_gas 17 = .ok (.astore 4, 2) := by decide +kernel
theorem dL_gas_19 : decode cL_gas 19 = .ok (.iconst 2, 1) := by decide +kernel
theorem dL_gas_20 : decode cL_gas 20 = .ok (.ireturn, 1) := by decide +kernel
theorem dL_gas_21 : decode cL_gas 21 = .ok (.astore 4, 2) := by decide +kernel
theorem dL_gas_23 : decode cL_gas 23 = .ok (.iconst 3, 1) := by decide +kernel
theorem dL_gas_24 : decode cL_gas 24 = .ok (.ireturn, 1) := by decide +kernel
theorem dL_gas_25 : decode cL_gas 25 = .ok (.iconst 0, 1) := by decide +kernel
theorem dL_gas_26 : decode cL_gas 26 = .ok (.ireturn, 1) := by decide +kernel
theorem dL_wash_0 : decode cL_wash 0 = .ok (.aload_n 2, 1) := by decide +kernel
theorem dL_wash_1 : decode cL_wash 1 = .ok (.iconst 0, 1) := by decide +kernel
theorem dL_wash_2 : decode cL_wash 2 = .ok (.aload_n 0, 1) := by decide +kernel
theorem dL_wash_3 : decode cL_wash 3 = .ok (.iload_n 1, 1) := by decide +kernel
theorem dL_wash_4 : decode cL_wash 4 = .ok (.invokevirtual 72, 3) := by decide +kernel
theorem dL_wash_7 : decode cL_wash 7 = .ok (.i2l, 1) := by decide +kernel
theorem dL_wash_8 : decode cL_wash 8 = .ok (.lastore, 1) := by decide +kernel
theorem dL_wash_9 : decode cL_wash 9 = .ok (.goto 9, 3) := by decide +kernel
theorem dL_wash_12 : decode cL_wash 12 = .ok (.astore_n 3, 1) := by decide +kernel
theorem dL_wash_13 : decode cL_wash 13 = .ok (.iconst 1, 1) := by decide +kernel
theorem dL_wash_14 : decode cL_wash 14 = .ok (.ireturn, 1) := by decide +kernel
theorem dL_wash_15 : decode cL_wash 15 = .ok (.astore_n 3, 1) := by decide +kernel
theorem dL_wash_16 : decode cL_wash 16 = .ok (.iconst 2, 1) := by decide +kernel
theorem dL_wash_17 : decode cL_wash 17 = .ok (.ireturn, 1) := by decide +kernel
theorem dL_wash_18 : decode cL_wash 18 = .ok (.iconst 0, 1) := by decide +kernel
theorem dL_wash_19 : decode cL_wash 19 = .ok (.ireturn, 1) := by decide +kernel
theorem dL_soap_0 : decode cL_soap 0 = .ok (.aload_n 2, 1) := by decide +kernel
theorem dL_soap_1 : decode cL_soap 1 = .ok (.iconst 0, 1) := by decide +kernel
theorem dL_soap_2 : decode cL_soap 2 = .ok (.aload_n 0, 1) := by decide +kernel
theorem dL_soap_3 : decode cL_soap 3 = .ok (.iload_n 1, 1) := by decide +kernel
theorem dL_soap_4 : decode cL_soap 4 = .ok (.invokevirtual 75, 3) := by decide +kernel
theorem dL_soap_7 : decode cL_soap 7 = .ok (.i2l, 1) := by decide +kernel
theorem dL_soap_8 : decode cL_soap 8 = .ok (.lastore, 1) := by decide +kernel
theorem dL_soap_9 : decode cL_soap 9 = .ok (.goto 9, 3) := by decide +kernel
theorem dL_soap_12 : decode cL_soap 12 = .ok (.astore_n 3, 1) := by decide +kernel
theorem dL_soap_13 : decode cL_soap 13 = .ok (.iconst 1, 1) := by decide +kernel
theorem dL_soap_14 : decode cL_soap 14 = .ok (.ireturn, 1) := by decide +kernel
theorem dL_soap_15 : decode cL_soap 15 = .ok (.astore_n 3, 1) := by decide +kernel
theorem dL_soap_16 : decode cL_soap 16 = .ok (.iconst 2, 1) := by decide +kernel
theorem dL_soap_17 : decode cL_soap 17 = .ok (.ireturn, 1) := by decide +kernel
theorem dL_soap_18 : decode cL_soap 18 = .ok (.iconst 0, 1) := by decide +kernel
theorem dL_soap_19 : decode cL_soap 19 = .ok (.ireturn, 1) := by decide +kernel
theorem dL_pass_0 : decode cL_pass 0 = .ok (.aload_n 2, 1) := by decide +kernel
theorem dL_pass_1 : decode cL_pass 1 = .ok (.iconst 0, 1) := by decide +kernel
theorem dL_pass_2 : decode cL_pass 2 = .ok (.aload_n 0, 1) := by decide +kernel
theorem dL_pass_3 : decode cL_pass 3 = .ok (.iload_n 1, 1) := by decide +kernel
theorem dL_pass_4 : decode cL_pass 4 = .ok (.invokevirtual 78, 3) := by decide +kernel
theorem dL_pass_7 : decode cL_pass 7 = .ok (.i2l, 1) := by decide +kernel
theorem dL_pass_8 : decode cL_pass 8 = .ok (.lastore, 1) := by decide +kernel
theorem dL_pass_9 : decode cL_pass 9 = .ok (.goto 6, 3) := by decide +kernel
theorem dL_pass_12 : decode cL_pass 12 = .ok (.astore_n 3, 1) := by decide +kernel
theorem dL_pass_13 : decode cL_pass 13 = .ok (.iconst 1, 1) := by decide +kernel
theorem dL_pass_14 : decode cL_pass 14 = .ok (.ireturn, 1) := by decide +kernel
theorem dL_pass_15 : decode cL_pass 15 = .ok (.iconst 0, 1) := by decide +kernel
theorem dL_pass_16 : decode cL_pass 16 = .ok (.ireturn, 1) := by decide +kernel
theorem dL_heatsIn_0 : decode cL_heatsIn 0 = .ok (.aload_n 3, 1) := by decide +kernel
theorem dL_heatsIn_1 : decode cL_heatsIn 1 = .ok (.iconst 0, 1) := by decide +kernel
theorem dL_heatsIn_2 : decode cL_heatsIn 2 = .ok (.aload_n 0, 1) := by decide +kernel
theorem dL_heatsIn_3 : decode cL_heatsIn 3 = .ok (.iload_n 1, 1) := by decide +kernel
theorem dL_heatsIn_4 : decode cL_heatsIn 4 = .ok (.iload_n 2, 1) := by decide +kernel
theorem dL_heatsIn_5 : decode cL_heatsIn 5 = .ok (.invokevirtual 81, 3) := by decide +kernel
theorem dL_heatsIn_8 : decode cL_heatsIn 8 = .ok (.i2l, 1) := by decide +kernel
theorem dL_heatsIn_9 : decode cL_heatsIn 9 = .ok (.lastore, 1) := by decide +kernel
theorem dL_heatsIn_10 : decode cL_heatsIn 10 = .ok (.goto 7, 3) := by decide +kernel
theorem dL_heatsIn_13 : decode cL_heatsIn 13 = .ok (.astore 4, 2) := by decide +kernel
theorem dL_heatsIn_15 : decode cL_heatsIn 15 = .ok (.iconst 1, 1) := by decide +kernel
theorem dL_heatsIn_16 : decode cL_heatsIn 16 = .ok (.ireturn, 1) := by decide +kernel
theorem dL_heatsIn_17 : decode cL_heatsIn 17 = .ok (.iconst 0, 1) := by decide +kernel
theorem dL_heatsIn_18 : decode cL_heatsIn 18 = .ok (.ireturn, 1) := by decide +kernel
theorem dL_heatsAgain_0 : decode cL_heatsAgain 0 = .ok (.aload_n 3, 1) := by decide +kernel
theorem dL_heatsAgain_1 : decode cL_heatsAgain 1 = .ok (.iconst 0, 1) := by decide +kernel
theorem dL_heatsAgain_2 : decode cL_heatsAgain 2 = .ok (.aload_n 0, 1) := by decide +kernel
theorem dL_heatsAgain_3 : decode cL_heatsAgain 3 = .ok (.iload_n 1, 1) := by decide +kernel
theorem dL_heatsAgain_4 : decode cL_heatsAgain 4 = .ok (.iload_n 2, 1) := by decide +kernel
theorem dL_heatsAgain_5 : decode cL_heatsAgain 5 = .ok (.invokevirtual 84, 3) := by decide +kernel
theorem dL_heatsAgain_8 : decode cL_heatsAgain 8 = .ok (.i2l, 1) := by decide +kernel
theorem dL_heatsAgain_9 : decode cL_heatsAgain 9 = .ok (.lastore, 1) := by decide +kernel
theorem dL_heatsAgain_10 : decode cL_heatsAgain 10 = .ok (.goto 7, 3) := by decide +kernel
theorem dL_heatsAgain_13 : decode cL_heatsAgain 13 = .ok (.astore 4, 2) := by decide +kernel
theorem dL_heatsAgain_15 : decode cL_heatsAgain 15 = .ok (.iconst 1, 1) := by decide +kernel
theorem dL_heatsAgain_16 : decode cL_heatsAgain 16 = .ok (.ireturn, 1) := by decide +kernel
theorem dL_heatsAgain_17 : decode cL_heatsAgain 17 = .ok (.iconst 0, 1) := by decide +kernel
theorem dL_heatsAgain_18 : decode cL_heatsAgain 18 = .ok (.ireturn, 1) := by decide +kernel
theorem dL_bathesIn_0 : decode cL_bathesIn 0 = .ok (.aload_n 2, 1) := by decide +kernel
theorem dL_bathesIn_1 : decode cL_bathesIn 1 = .ok (.iconst 0, 1) := by decide +kernel
theorem dL_bathesIn_2 : decode cL_bathesIn 2 = .ok (.aload_n 0, 1) := by decide +kernel
theorem dL_bathesIn_3 : decode cL_bathesIn 3 = .ok (.iload_n 1, 1) := by decide +kernel
theorem dL_bathesIn_4 : decode cL_bathesIn 4 = .ok (.invokevirtual 87, 3) := by decide +kernel
theorem dL_bathesIn_7 : decode cL_bathesIn 7 = .ok (.i2l, 1) := by decide +kernel
theorem dL_bathesIn_8 : decode cL_bathesIn 8 = .ok (.lastore, 1) := by decide +kernel
theorem dL_bathesIn_9 : decode cL_bathesIn 9 = .ok (.goto 6, 3) := by decide +kernel
theorem dL_bathesIn_12 : decode cL_bathesIn 12 = .ok (.astore_n 3, 1) := by decide +kernel
theorem dL_bathesIn_13 : decode cL_bathesIn 13 = .ok (.iconst 1, 1) := by decide +kernel
theorem dL_bathesIn_14 : decode cL_bathesIn 14 = .ok (.ireturn, 1) := by decide +kernel
theorem dL_bathesIn_15 : decode cL_bathesIn 15 = .ok (.iconst 0, 1) := by decide +kernel
theorem dL_bathesIn_16 : decode cL_bathesIn 16 = .ok (.ireturn, 1) := by decide +kernel
theorem dL_line_0 : decode cL_line 0 = .ok (.aload_n 2, 1) := by decide +kernel
theorem dL_line_1 : decode cL_line 1 = .ok (.iconst 0, 1) := by decide +kernel
theorem dL_line_2 : decode cL_line 2 = .ok (.aload_n 0, 1) := by decide +kernel
theorem dL_line_3 : decode cL_line 3 = .ok (.iload_n 1, 1) := by decide +kernel
theorem dL_line_4 : decode cL_line 4 = .ok (.invokevirtual 90, 3) := by decide +kernel
theorem dL_line_7 : decode cL_line 7 = .ok (.i2l, 1) := by decide +kernel
theorem dL_line_8 : decode cL_line 8 = .ok (.lastore, 1) := by decide +kernel
theorem dL_line_9 : decode cL_line 9 = .ok (.goto 6, 3) := by decide +kernel
theorem dL_line_12 : decode cL_line 12 = .ok (.astore_n 3, 1) := by decide +kernel
theorem dL_line_13 : decode cL_line 13 = .ok (.iconst 1, 1) := by decide +kernel
theorem dL_line_14 : decode cL_line 14 = .ok (.ireturn, 1) := by decide +kernel
theorem dL_line_15 : decode cL_line 15 = .ok (.iconst 0, 1) := by decide +kernel
theorem dL_line_16 : decode cL_line 16 = .ok (.ireturn, 1) := by decide +kernel
theorem dL_character_0 : decode cL_character 0 = .ok (.aload_n 2, 1) := by decide +kernel
theorem dL_character_1 : decode cL_character 1 = .ok (.iconst 0, 1) := by decide +kernel
theorem dL_character_2 : decode cL_character 2 = .ok (.aload_n 0, 1) := by decide +kernel
theorem dL_character_3 : decode cL_character 3 = .ok (.iload_n 1, 1) := by decide +kernel
theorem dL_character_4 : decode cL_character 4 = .ok (.invokevirtual 93, 3) := by decide +kernel
theorem dL_character_7 : decode cL_character 7 = .ok (.i2l, 1) := by decide +kernel
theorem dL_character_8 : decode cL_character 8 = .ok (.lastore, 1) := by decide +kernel
theorem dL_character_9 : decode cL_character 9 = .ok (.goto 6, 3) := by decide +kernel
theorem dL_character_12 : decode cL_character 12 = .ok (.astore_n 3, 1) := by decide +kernel
theorem dL_character_13 : decode cL_character 13 = .ok (.iconst 1, 1) := by decide +kernel
theorem dL_character_14 : decode cL_character 14 = .ok (.ireturn, 1) := by decide +kernel
theorem dL_character_15 : decode cL_character 15 = .ok (.iconst 0, 1) := by decide +kernel
theorem dL_character_16 : decode cL_character 16 = .ok (.ireturn, 1) := by decide +kernel
theorem dL_number_0 : decode cL_number 0 = .ok (.aload_n 2, 1) := by decide +kernel
theorem dL_number_1 : decode cL_number 1 = .ok (.iconst 0, 1) := by decide +kernel
theorem dL_number_2 : decode cL_number 2 = .ok (.aload_n 0, 1) := by decide +kernel
theorem dL_number_3 : decode cL_number 3 = .ok (.iload_n 1, 1) := by decide +kernel
theorem dL_number_4 : decode cL_number 4 = .ok (.invokevirtual 97, 3) := by decide +kernel
theorem dL_number_7 : decode cL_number 7 = .ok (.i2l, 1) := by decide +kernel
theorem dL_number_8 : decode cL_number 8 = .ok (.lastore, 1) := by decide +kernel
theorem dL_number_9 : decode cL_number 9 = .ok (.goto 6, 3) := by decide +kernel
theorem dL_number_12 : decode cL_number 12 = .ok (.astore_n 3, 1) := by decide +kernel
theorem dL_number_13 : decode cL_number 13 = .ok (.iconst 1, 1) := by decide +kernel
theorem dL_number_14 : decode cL_number 14 = .ok (.ireturn, 1) := by decide +kernel
theorem dL_number_15 : decode cL_number 15 = .ok (.iconst 0, 1) := by decide +kernel
theorem dL_number_16 : decode cL_number 16 = .ok (.ireturn, 1) := by decide +kernel
theorem dL_meanWarmth_0 : decode cL_meanWarmth 0 = .ok (.aload_n 1, 1) := by decide +kernel
theorem dL_meanWarmth_1 : decode cL_meanWarmth 1 = .ok (.iconst 0, 1) := by decide +kernel
theorem dL_meanWarmth_2 : decode cL_meanWarmth 2 = .ok (.aload_n 0, 1) := by decide +kernel
theorem dL_meanWarmth_3 : decode cL_meanWarmth 3 = .ok (.invokevirtual 100, 3) := by decide +kernel
theorem dL_meanWarmth_6 : decode cL_meanWarmth 6 = .ok (.dastore, 1) := by decide +kernel
theorem dL_meanWarmth_7 : decode cL_meanWarmth 7 = .ok (.goto 6, 3) := by decide +kernel
theorem dL_meanWarmth_10 : decode cL_meanWarmth 10 = .ok (.astore_n 2, 1) := by decide +kernel
theorem dL_meanWarmth_11 : decode cL_meanWarmth 11 = .ok (.iconst 1, 1) := by decide +kernel
theorem dL_meanWarmth_12 : decode cL_meanWarmth 12 = .ok (.ireturn, 1) := by decide +kernel
theorem dL_meanWarmth_13 : decode cL_meanWarmth 13 = .ok (.iconst 0, 1) := by decide +kernel
theorem dL_meanWarmth_14 : decode cL_meanWarmth 14 = .ok (.ireturn, 1) := by decide +kernel
theorem dL_bathedShare_0 : decode cL_bathedShare 0 = .ok (.aload_n 1, 1) := by decide +kernel
theorem dL_bathedShare_1 : decode cL_bathedShare 1 = .ok (.iconst 0, 1) := by decide +kernel
theorem dL_bathedShare_2 : decode cL_bathedShare 2 = .ok (.aload_n 0, 1) := by decide +kernel
theorem dL_bathedShare_3 : decode cL_bathedShare 3 = .ok (.invokevirtual 106, 3) := by decide +kernel
theorem dL_bathedShare_6 : decode cL_bathedShare 6 = .ok (.f2d, 1) := by decide +kernel
theorem dL_bathedShare_7 : decode cL_bathedShare 7 = .ok (.dastore, 1) := by decide +kernel
theorem dL_bathedShare_8 : decode cL_bathedShare 8 = .ok (.goto 6, 3) := by decide +kernel
theorem dL_bathedShare_11 : decode cL_bathedShare 11 = .ok (.astore_n 2, 1) := by decide +kernel
theorem dL_bathedShare_12 : decode cL_bathedShare 12 = .ok (.iconst 1, 1) := by decide +kernel
theorem dL_bathedShare_13 : decode cL_bathedShare 13 = .ok (.ireturn, 1) := by decide +kernel
theorem dL_bathedShare_14 : decode cL_bathedShare 14 = .ok (.iconst 0, 1) := by decide +kernel
theorem dL_bathedShare_15 : decode cL_bathedShare 15 = .ok (.ireturn, 1) := by decide +kernel
theorem dL_feed_0 : decode cL_feed 0 = .ok (.aload_n 2, 1) := by decide +kernel
theorem dL_feed_1 : decode cL_feed 1 = .ok (.iconst 0, 1) := by decide +kernel
theorem dL_feed_2 : decode cL_feed 2 = .ok (.aload_n 0, 1) := by decide +kernel
theorem dL_feed_3 : decode cL_feed 3 = .ok (.iload_n 1, 1) := by decide +kernel
theorem dL_feed_4 : decode cL_feed 4 = .ok (.invokevirtual 110, 3) := by decide +kernel
theorem dL_feed_7 : decode cL_feed 7 = .ok (.i2l, 1) := by decide +kernel
theorem dL_feed_8 : decode cL_feed 8 = .ok (.lastore, 1) := by decide +kernel
theorem dL_feed_9 : decode cL_feed 9 = .ok (.goto 6, 3) := by decide +kernel
theorem dL_feed_12 : decode cL_feed 12 = .ok (.astore_n 3, 1) := by decide +kernel
theorem dL_feed_13 : decode cL_feed 13 = .ok (.iconst 1, 1) := by decide +kernel
theorem dL_feed_14 : decode cL_feed 14 = .ok (.ireturn, 1) := by decide +kernel
theorem dL_feed_15 : decode cL_feed 15 = .ok (.iconst 0, 1) := by decide +kernel
theorem dL_feed_16 : decode cL_feed 16 = .ok (.ireturn, 1) := by decide +kernel
theorem dL_read_0 : decode cL_read 0 = .ok (.aload_n 1, 1) := by decide +kernel
theorem dL_read_1 : decode cL_read 1 = .ok (.iconst 0, 1) := by decide +kernel
theorem dL_read_2 : decode cL_read 2 = .ok (.aload_n 0, 1) := by decide +kernel
theorem dL_read_3 : decode cL_read 3 = .ok (.invokevirtual 116, 3) := by decide +kernel
theorem dL_read_6 : decode cL_read 6 = .ok (.i2l, 1) := by decide +kernel
theorem dL_read_7 : decode cL_read 7 = .ok (.lastore, 1) := by decide +kernel
theorem dL_read_8 : decode cL_read 8 = .ok (.goto 9, 3) := by decide +kernel
theorem dL_read_11 : decode cL_read 11 = .ok (.astore_n 2, 1) := by decide +kernel
theorem dL_read_12 : decode cL_read 12 = .ok (.iconst 1, 1) := by decide +kernel
theorem dL_read_13 : decode cL_read 13 = .ok (.ireturn, 1) := by decide +kernel
theorem dL_read_14 : decode cL_read 14 = .ok (.astore_n 2, 1) := by decide +kernel
theorem dL_read_15 : decode cL_read 15 = .ok (.iconst 2, 1) := by decide +kernel
theorem dL_read_16 : decode cL_read 16 = .ok (.ireturn, 1) := by decide +kernel
theorem dL_read_17 : decode cL_read 17 = .ok (.iconst 0, 1) := by decide +kernel
theorem dL_read_18 : decode cL_read 18 = .ok (.ireturn, 1) := by decide +kernel
theorem dL_faultPosition_0 : decode cL_faultPosition 0 = .ok (.aload_n 1, 1) := by decide +kernel
theorem dL_faultPosition_1 : decode cL_faultPosition 1 = .ok (.iconst 0, 1) := by decide +kernel
theorem dL_faultPosition_2 : decode cL_faultPosition 2 = .ok (.aload_n 0, 1) := by decide +kernel
theorem dL_faultPosition_3 : decode cL_faultPosition 3 = .ok (.invokevirtual 119, 3) := by decide +kernel
theorem dL_faultPosition_6 : decode cL_faultPosition 6 = .ok (.i2l, 1) := by decide +kernel
theorem dL_faultPosition_7 : decode cL_faultPosition 7 = .ok (.lastore, 1) := by decide +kernel
theorem dL_faultPosition_8 : decode cL_faultPosition 8 = .ok (.goto 6, 3) := by decide +kernel
theorem dL_faultPosition_11 : decode cL_faultPosition 11 = .ok (.astore_n 2, 1) := by decide +kernel
theorem dL_faultPosition_12 : decode cL_faultPosition 12 = .ok (.iconst 1, 1) := by decide +kernel
theorem dL_faultPosition_13 : decode cL_faultPosition 13 = .ok (.ireturn, 1) := by decide +kernel
theorem dL_faultPosition_14 : decode cL_faultPosition 14 = .ok (.iconst 0, 1) := by decide +kernel
theorem dL_faultPosition_15 : decode cL_faultPosition 15 = .ok (.ireturn, 1) := by decide +kernel
theorem dL_refusal_0 : decode cL_refusal 0 = .ok (.aload_n 2, 1) := by decide +kernel
theorem dL_refusal_1 : decode cL_refusal 1 = .ok (.iconst 0, 1) := by decide +kernel
theorem dL_refusal_2 : decode cL_refusal 2 = .ok (.aload_n 0, 1) := by decide +kernel
theorem dL_refusal_3 : decode cL_refusal 3 = .ok (.iload_n 1, 1) := by decide +kernel
theorem dL_refusal_4 : decode cL_refusal 4 = .ok (.invokevirtual 122, 3) := by decide +kernel
theorem dL_refusal_7 : decode cL_refusal 7 = .ok (.i2l, 1) := by decide +kernel
theorem dL_refusal_8 : decode cL_refusal 8 = .ok (.lastore, 1) := by decide +kernel
theorem dL_refusal_9 : decode cL_refusal 9 = .ok (.goto 6, 3) := by decide +kernel
theorem dL_refusal_12 : decode cL_refusal 12 = .ok (.astore_n 3, 1) := by decide +kernel
theorem dL_refusal_13 : decode cL_refusal 13 = .ok (.iconst 1, 1) := by decide +kernel
theorem dL_refusal_14 : decode cL_refusal 14 = .ok (.ireturn, 1) := by decide +kernel
theorem dL_refusal_15 : decode cL_refusal 15 = .ok (.iconst 0, 1) := by decide +kernel
theorem dL_refusal_16 : decode cL_refusal 16 = .ok (.ireturn, 1) := by decide +kernel
theorem dL_undo_0 : decode cL_undo 0 = .ok (.aload_n 1, 1) := by decide +kernel
theorem dL_undo_1 : decode cL_undo 1 = .ok (.iconst 0, 1) := by decide +kernel
theorem dL_undo_2 : decode cL_undo 2 = .ok (.aload_n 0, 1) := by decide +kernel
theorem dL_undo_3 : decode cL_undo 3 = .ok (.invokevirtual 126, 3) := by decide +kernel
theorem dL_undo_6 : decode cL_undo 6 = .ok (.i2l, 1) := by decide +kernel
theorem dL_undo_7 : decode cL_undo 7 = .ok (.lastore, 1) := by decide +kernel
theorem dL_undo_8 : decode cL_undo 8 = .ok (.goto 6, 3) := by decide +kernel
theorem dL_undo_11 : decode cL_undo 11 = .ok (.astore_n 2, 1) := by decide +kernel
theorem dL_undo_12 : decode cL_undo 12 = .ok (.iconst 1, 1) := by decide +kernel
theorem dL_undo_13 : decode cL_undo 13 = .ok (.ireturn, 1) := by decide +kernel
theorem dL_undo_14 : decode cL_undo 14 = .ok (.iconst 0, 1) := by decide +kernel
theorem dL_undo_15 : decode cL_undo 15 = .ok (.ireturn, 1) := by decide +kernel
theorem dL_restoreSnapshot_0 : decode cL_restoreSnapshot 0 = .ok (.aload_n 1, 1) := by decide +kernel
theorem dL_restoreSnapshot_1 : decode cL_restoreSnapshot 1 = .ok (.iconst 0, 1) := by decide +kernel
theorem dL_restoreSnapshot_2 : decode cL_restoreSnapshot 2 = .ok (.aload_n 0, 1) := by decide +kernel
theorem dL_restoreSnapshot_3 : decode cL_restoreSnapshot 3 = .ok (.invokevirtual 129, 3) := by decide +kernel
theorem dL_restoreSnapshot_6 : decode cL_restoreSnapshot 6 = .ok (.i2l, 1) := by decide +kernel
theorem dL_restoreSnapshot_7 : decode cL_restoreSnapshot 7 = .ok (.lastore, 1) := by decide +kernel
theorem dL_restoreSnapshot_8 : decode cL_restoreSnapshot 8 = .ok (.goto 6, 3) := by decide +kernel
theorem dL_restoreSnapshot_11 : decode cL_restoreSnapshot 11 = .ok (.astore_n 2, 1) := by decide +kernel
theorem dL_restoreSnapshot_12 : decode cL_restoreSnapshot 12 = .ok (.iconst 1, 1) := by decide +kernel
theorem dL_restoreSnapshot_13 : decode cL_restoreSnapshot 13 = .ok (.ireturn, 1) := by decide +kernel
theorem dL_restoreSnapshot_14 : decode cL_restoreSnapshot 14 = .ok (.iconst 0, 1) := by decide +kernel
theorem dL_restoreSnapshot_15 : decode cL_restoreSnapshot 15 = .ok (.ireturn, 1) := by decide +kernel
theorem dL_law_0 : decode cL_law 0 = .ok (.new 8, 3) := by decide +kernel
theorem dL_law_3 : decode cL_law 3 = .ok (.dup, 1) := by decide +kernel
theorem dL_law_4 : decode cL_law 4 = .ok (.invokespecial 132, 3) := by decide +kernel
theorem dL_law_7 : decode cL_law 7 = .ok (.astore_n 1, 1) := by decide +kernel
theorem dL_law_8 : decode cL_law 8 = .ok (.new 133, 3) := by decide +kernel
theorem dL_law_11 : decode cL_law 11 = .ok (.dup, 1) := by decide +kernel
theorem dL_law_12 : decode cL_law 12 = .ok (.invokespecial 135, 3) := by decide +kernel
theorem dL_law_15 : decode cL_law 15 = .ok (.astore_n 2, 1) := by decide +kernel
theorem dL_law_16 : decode cL_law 16 = .ok (.iconst 1, 1) := by decide +kernel
theorem dL_law_17 : decode cL_law 17 = .ok (.newarray .long, 2) := by decide +kernel
theorem dL_law_19 : decode cL_law 19 = .ok (.astore_n 3, 1) := by decide +kernel
theorem dL_law_20 : decode cL_law 20 = .ok (.iconst 1, 1) := by decide +kernel
theorem dL_law_21 : decode cL_law 21 = .ok (.newarray .double, 2) := by decide +kernel
theorem dL_law_23 : decode cL_law 23 = .ok (.astore 4, 2) := by decide +kernel
theorem dL_law_25 : decode cL_law 25 = .ok (.iconst 0, 1) := by decide +kernel
theorem dL_law_26 : decode cL_law 26 = .ok (.istore 5, 2) := by decide +kernel
theorem dL_law_28 : decode cL_law 28 = .ok (.iload 5, 2) := by decide +kernel
theorem dL_law_30 : decode cL_law 30 = .ok (.aload_n 0, 1) := by decide +kernel
theorem dL_law_31 : decode cL_law 31 = .ok (.arraylength, 1) := by decide +kernel
theorem dL_law_32 : decode cL_law 32 = .ok (.iconst 3, 1) := by decide +kernel
theorem dL_law_33 : decode cL_law 33 = .ok (.isub, 1) := by decide +kernel
theorem dL_law_34 : decode cL_law 34 = .ok (.if_icmp .gt 2231, 3) := by decide +kernel
theorem dL_law_37 : decode cL_law 37 = .ok (.aload_n 0, 1) := by decide +kernel
theorem dL_law_38 : decode cL_law 38 = .ok (.iload 5, 2) := by decide +kernel
theorem dL_law_40 : decode cL_law 40 = .ok (.iaload, 1) := by decide +kernel
theorem dL_law_41 : decode cL_law 41 = .ok (.bipush 63, 2) := by decide +kernel
theorem dL_law_43 : decode cL_law 43 = .ok (.iand, 1) := by decide +kernel
theorem dL_law_44 : decode cL_law 44 = .ok (.tableswitch 2215 0 35 #[160, 216, 284, 352, 420, 488, 532, 600, 656, 712, 780, 848, 904, 948, 1032, 1100, 1156, 1224, 1280, 1336, 1392, 1460, 1528, 1584, 1640, 1696, 1752, 1765, 1830, 1896, 1954, 1998, 2042, 2114, 2158, 2171], 160) := by decide +kernel
theorem dL_law_204 : decode cL_law 204 = .ok (.aload_n 1, 1) := by decide +kernel
theorem dL_law_205 : decode cL_law 205 = .ok (.aload_n 0, 1) := by decide +kernel
theorem dL_law_206 : decode cL_law 206 = .ok (.iload 5, 2) := by decide +kernel
theorem dL_law_208 : decode cL_law 208 = .ok (.iconst 1, 1) := by decide +kernel
theorem dL_law_209 : decode cL_law 209 = .ok (.iadd, 1) := by decide +kernel
theorem dL_law_210 : decode cL_law 210 = .ok (.iaload, 1) := by decide +kernel
theorem dL_law_211 : decode cL_law 211 = .ok (.aload_n 3, 1) := by decide +kernel
theorem dL_law_212 : decode cL_law 212 = .ok (.invokestatic 136, 3) := by decide +kernel
theorem dL_law_215 : decode cL_law 215 = .ok (.istore 6, 2) := by decide +kernel
theorem dL_law_217 : decode cL_law 217 = .ok (.aload_n 2, 1) := by decide +kernel
theorem dL_law_218 : decode cL_law 218 = .ok (.aload_n 0, 1) := by decide +kernel
theorem dL_law_219 : decode cL_law 219 = .ok (.iload 5, 2) := by decide +kernel
theorem dL_law_221 : decode cL_law 221 = .ok (.iconst 1, 1) := by decide +kernel
theorem dL_law_222 : decode cL_law 222 = .ok (.iadd, 1) := by decide +kernel
theorem dL_law_223 : decode cL_law 223 = .ok (.iaload, 1) := by decide +kernel
theorem dL_law_224 : decode cL_law 224 = .ok (.invokevirtual 141, 3) := by decide +kernel
theorem dL_law_227 : decode cL_law 227 = .ok (.istore 7, 2) := by decide +kernel
theorem dL_law_229 : decode cL_law 229 = .ok (.aload_n 2, 1) := by decide +kernel
theorem dL_law_230 : decode cL_law 230 = .ok (.invokevirtual 142, 3) := by decide +kernel
theorem dL_law_233 : decode cL_law 233 = .ok (.iload 6, 2) := by decide +kernel
theorem dL_law_235 : decode cL_law 235 = .ok (.if_icmp .eq 5, 3) := by decide +kernel
theorem dL_law_238 : decode cL_law 238 = .ok (.iconst 0, 1) := by decide +kernel
theorem dL_law_239 : decode cL_law 239 = .ok (.ireturn, 1) := by decide +kernel
theorem dL_law_240 : decode cL_law 240 = .ok (.iload 6, 2) := by decide +kernel
theorem dL_law_242 : decode cL_law 242 = .ok (.ifCond .ne 15, 3) := by decide +kernel
theorem dL_law_245 : decode cL_law 245 = .ok (.aload_n 3, 1) := by decide +kernel
theorem dL_law_246 : decode cL_law 246 = .ok (.iconst 0, 1) := by decide +kernel
theorem dL_law_247 : decode cL_law 247 = .ok (.laload, 1) := by decide +kernel
theorem dL_law_248 : decode cL_law 248 = .ok (.iload 7, 2) := by decide +kernel
theorem dL_law_250 : decode cL_law 250 = .ok (.i2l, 1) := by decide +kernel
theorem dL_law_251 : decode cL_law 251 = .ok (.lcmp, 1) := by decide +kernel
theorem dL_law_252 : decode cL_law 252 = .ok (.ifCond .eq 5, 3) := by decide +kernel
theorem dL_law_255 : decode cL_law 255 = .ok (.iconst 0, 1) := by decide +kernel
theorem dL_law_256 : decode cL_law 256 = .ok (.ireturn, 1) := by decide +kernel
theorem dL_law_257 : decode cL_law 257 = .ok (.goto 2002, 3) := by decide +kernel
theorem dL_law_260 : decode cL_law 260 = .ok (.aload_n 1, 1) := by decide +kernel
theorem dL_law_261 : decode cL_law 261 = .ok (.aload_n 0, 1) := by decide +kernel
theorem dL_law_262 : decode cL_law 262 = .ok (.iload 5, 2) := by decide +kernel
theorem dL_law_264 : decode cL_law 264 = .ok (.iconst 1, 1) := by decide +kernel
theorem dL_law_265 : decode cL_law 265 = .ok (.iadd, 1) := by decide +kernel
theorem dL_law_266 : decode cL_law 266 = .ok (.iaload, 1) := by decide +kernel
theorem dL_law_267 : decode cL_law 267 = .ok (.aload_n 0, 1) := by decide +kernel
theorem dL_law_268 : decode cL_law 268 = .ok (.iload 5, 2) := by decide +kernel
theorem dL_law_270 : decode cL_law 270 = .ok (.iconst 2, 1) := by decide +kernel
theorem dL_law_271 : decode cL_law 271 = .ok (.iadd, 1) := by decide +kernel
theorem dL_law_272 : decode cL_law 272 = .ok (.iaload, 1) := by decide +kernel
theorem dL_law_273 : decode cL_law 273 = .ok (.aload_n 3, 1) := by decide +kernel
theorem dL_law_274 : decode cL_law 274 = .ok (.invokestatic 145, 3) := by decide +kernel
theorem dL_law_277 : decode cL_law 277 = .ok (.istore 6, 2) := by decide +kernel
theorem dL_law_279 : decode cL_law 279 = .ok (.aload_n 2, 1) := by decide +kernel
theorem dL_law_280 : decode cL_law 280 = .ok (.aload_n 0, 1) := by decide +kernel
theorem dL_law_281 : decode cL_law 281 = .ok (.iload 5, 2) := by decide +kernel
theorem dL_law_283 : decode cL_law 283 = .ok (.iconst 1, 1) := by decide +kernel
theorem dL_law_284 : decode cL_law 284 = .ok (.iadd, 1) := by decide +kernel
theorem dL_law_285 : decode cL_law 285 = .ok (.iaload, 1) := by decide +kernel
theorem dL_law_286 : decode cL_law 286 = .ok (.aload_n 0, 1) := by decide +kernel
theorem dL_law_287 : decode cL_law 287 = .ok (.iload 5, 2) := by decide +kernel
theorem dL_law_289 : decode cL_law 289 = .ok (.iconst 2, 1) := by decide +kernel
theorem dL_law_290 : decode cL_law 290 = .ok (.iadd, 1) := by decide +kernel
theorem dL_law_291 : decode cL_law 291 = .ok (.iaload, 1) := by decide +kernel
theorem dL_law_292 : decode cL_law 292 = .ok (.invokevirtual 148, 3) := by decide +kernel
theorem dL_law_295 : decode cL_law 295 = .ok (.istore 7, 2) := by decide +kernel
theorem dL_law_297 : decode cL_law 297 = .ok (.aload_n 2, 1) := by decide +kernel
theorem dL_law_298 : decode cL_law 298 = .ok (.invokevirtual 142, 3) := by decide +kernel
theorem dL_law_301 : decode cL_law 301 = .ok (.iload 6, 2) := by decide +kernel
theorem dL_law_303 : decode cL_law 303 = .ok (.if_icmp .eq 5, 3) := by decide +kernel
theorem dL_law_306 : decode cL_law 306 = .ok (.iconst 0, 1) := by decide +kernel
theorem dL_law_307 : decode cL_law 307 = .ok (.ireturn, 1) := by decide +kernel
theorem dL_law_308 : decode cL_law 308 = .ok (.iload 6, 2) := by decide +kernel
theorem dL_law_310 : decode cL_law 310 = .ok (.ifCond .ne 15, 3) := by decide +kernel
theorem dL_law_313 : decode cL_law 313 = .ok (.aload_n 3, 1) := by decide +kernel
theorem dL_law_314 : decode cL_law 314 = .ok (.iconst 0, 1) := by decide +kernel
theorem dL_law_315 : decode cL_law 315 = .ok (.laload, 1) := by decide +kernel
theorem dL_law_316 : decode cL_law 316 = .ok (.iload 7, 2) := by decide +kernel
theorem dL_law_318 : decode cL_law 318 = .ok (.i2l, 1) := by decide +kernel
theorem dL_law_319 : decode cL_law 319 = .ok (.lcmp, 1) := by decide +kernel
theorem dL_law_320 : decode cL_law 320 = .ok (.ifCond .eq 5, 3) := by decide +kernel
theorem dL_law_323 : decode cL_law 323 = .ok (.iconst 0, 1) := by decide +kernel
theorem dL_law_324 : decode cL_law 324 = .ok (.ireturn, 1) := by decide +kernel
theorem dL_law_325 : decode cL_law 325 = .ok (.goto 1934, 3) := by decide +kernel
theorem dL_law_328 : decode cL_law 328 = .ok (.aload_n 1, 1) := by decide +kernel
theorem dL_law_329 : decode cL_law 329 = .ok (.aload_n 0, 1) := by decide +kernel
theorem dL_law_330 : decode cL_law 330 = .ok (.iload 5, 2) := by decide +kernel
theorem dL_law_332 : decode cL_law 332 = .ok (.iconst 1, 1) := by decide +kernel
theorem dL_law_333 : decode cL_law 333 = .ok (.iadd, 1) := by decide +kernel
theorem dL_law_334 : decode cL_law 334 = .ok (.iaload, 1) := by decide +kernel
theorem dL_law_335 : decode cL_law 335 = .ok (.aload_n 0, 1) := by decide +kernel
theorem dL_law_336 : decode cL_law 336 = .ok (.iload 5, 2) := by decide +kernel
theorem dL_law_338 : decode cL_law 338 = .ok (.iconst 2, 1) := by decide +kernel
theorem dL_law_339 : decode cL_law 339 = .ok (.iadd, 1) := by decide +kernel
theorem dL_law_340 : decode cL_law 340 = .ok (.iaload, 1) := by decide +kernel
theorem dL_law_341 : decode cL_law 341 = .ok (.aload_n 3, 1) := by decide +kernel
theorem dL_law_342 : decode cL_law 342 = .ok (.invokestatic 149, 3) := by decide +kernel
theorem dL_law_345 : decode cL_law 345 = .ok (.istore 6, 2) := by decide +kernel
theorem dL_law_347 : decode cL_law 347 = .ok (.aload_n 2, 1) := by decide +kernel
theorem dL_law_348 : decode cL_law 348 = .ok (.aload_n 0, 1) := by decide +kernel
theorem dL_law_349 : decode cL_law 349 = .ok (.iload 5, 2) := by decide +kernel
theorem dL_law_351 : decode cL_law 351 = .ok (.iconst 1, 1) := by decide +kernel
theorem dL_law_352 : decode cL_law 352 = .ok (.iadd, 1) := by decide +kernel
theorem dL_law_353 : decode cL_law 353 = .ok (.iaload, 1) := by decide +kernel
theorem dL_law_354 : decode cL_law 354 = .ok (.aload_n 0, 1) := by decide +kernel
theorem dL_law_355 : decode cL_law 355 = .ok (.iload 5, 2) := by decide +kernel
theorem dL_law_357 : decode cL_law 357 = .ok (.iconst 2, 1) := by decide +kernel
theorem dL_law_358 : decode cL_law 358 = .ok (.iadd, 1) := by decide +kernel
theorem dL_law_359 : decode cL_law 359 = .ok (.iaload, 1) := by decide +kernel
theorem dL_law_360 : decode cL_law 360 = .ok (.invokevirtual 151, 3) := by decide +kernel
theorem dL_law_363 : decode cL_law 363 = .ok (.istore 7, 2) := by decide +kernel
theorem dL_law_365 : decode cL_law 365 = .ok (.aload_n 2, 1) := by decide +kernel
theorem dL_law_366 : decode cL_law 366 = .ok (.invokevirtual 142, 3) := by decide +kernel
theorem dL_law_369 : decode cL_law 369 = .ok (.iload 6, 2) := by decide +kernel
theorem dL_law_371 : decode cL_law 371 = .ok (.if_icmp .eq 5, 3) := by decide +kernel
theorem dL_law_374 : decode cL_law 374 = .ok (.iconst 0, 1) := by decide +kernel
theorem dL_law_375 : decode cL_law 375 = .ok (.ireturn, 1) := by decide +kernel
theorem dL_law_376 : decode cL_law 376 = .ok (.iload 6, 2) := by decide +kernel
theorem dL_law_378 : decode cL_law 378 = .ok (.ifCond .ne 15, 3) := by decide +kernel
theorem dL_law_381 : decode cL_law 381 = .ok (.aload_n 3, 1) := by decide +kernel
theorem dL_law_382 : decode cL_law 382 = .ok (.iconst 0, 1) := by decide +kernel
theorem dL_law_383 : decode cL_law 383 = .ok (.laload, 1) := by decide +kernel
theorem dL_law_384 : decode cL_law 384 = .ok (.iload 7, 2) := by decide +kernel
theorem dL_law_386 : decode cL_law 386 = .ok (.i2l, 1) := by decide +kernel
theorem dL_law_387 : decode cL_law 387 = .ok (.lcmp, 1) := by decide +kernel
theorem dL_law_388 : decode cL_law 388 = .ok (.ifCond .eq 5, 3) := by decide +kernel
theorem dL_law_391 : decode cL_law 391 = .ok (.iconst 0, 1) := by decide +kernel
theorem dL_law_392 : decode cL_law 392 = .ok (.ireturn, 1) := by decide +kernel
theorem dL_law_393 : decode cL_law 393 = .ok (.goto 1866, 3) := by decide +kernel
theorem dL_law_396 : decode cL_law 396 = .ok (.aload_n 1, 1) := by decide +kernel
theorem dL_law_397 : decode cL_law 397 = .ok (.aload_n 0, 1) := by decide +kernel
theorem dL_law_398 : decode cL_law 398 = .ok (.iload 5, 2) := by decide +kernel
theorem dL_law_400 : decode cL_law 400 = .ok (.iconst 1, 1) := by decide +kernel
theorem dL_law_401 : decode cL_law 401 = .ok (.iadd, 1) := by decide +kernel
theorem dL_law_402 : decode cL_law 402 = .ok (.iaload, 1) := by decide +kernel
theorem dL_law_403 : decode cL_law 403 = .ok (.aload_n 0, 1) := by decide +kernel
theorem dL_law_404 : decode cL_law 404 = .ok (.iload 5, 2) := by decide +kernel
theorem dL_law_406 : decode cL_law 406 = .ok (.iconst 2, 1) := by decide +kernel
theorem dL_law_407 : decode cL_law 407 = .ok (.iadd, 1) := by decide +kernel
theorem dL_law_408 : decode cL_law 408 = .ok (.iaload, 1) := by decide +kernel
theorem dL_law_409 : decode cL_law 409 = .ok (.aload_n 3, 1) := by decide +kernel
theorem dL_law_410 : decode cL_law 410 = .ok (.invokestatic 152, 3) := by decide +kernel
theorem dL_law_413 : decode cL_law 413 = .ok (.istore 6, 2) := by decide +kernel
theorem dL_law_415 : decode cL_law 415 = .ok (.aload_n 2, 1) := by decide +kernel
theorem dL_law_416 : decode cL_law 416 = .ok (.aload_n 0, 1) := by decide +kernel
theorem dL_law_417 : decode cL_law 417 = .ok (.iload 5, 2) := by decide +kernel
theorem dL_law_419 : decode cL_law 419 = .ok (.iconst 1, 1) := by decide +kernel
theorem dL_law_420 : decode cL_law 420 = .ok (.iadd, 1) := by decide +kernel
theorem dL_law_421 : decode cL_law 421 = .ok (.iaload, 1) := by decide +kernel
theorem dL_law_422 : decode cL_law 422 = .ok (.aload_n 0, 1) := by decide +kernel
theorem dL_law_423 : decode cL_law 423 = .ok (.iload 5, 2) := by decide +kernel
theorem dL_law_425 : decode cL_law 425 = .ok (.iconst 2, 1) := by decide +kernel
theorem dL_law_426 : decode cL_law 426 = .ok (.iadd, 1) := by decide +kernel
theorem dL_law_427 : decode cL_law 427 = .ok (.iaload, 1) := by decide +kernel
theorem dL_law_428 : decode cL_law 428 = .ok (.invokevirtual 154, 3) := by decide +kernel
theorem dL_law_431 : decode cL_law 431 = .ok (.istore 7, 2) := by decide +kernel
theorem dL_law_433 : decode cL_law 433 = .ok (.aload_n 2, 1) := by decide +kernel
theorem dL_law_434 : decode cL_law 434 = .ok (.invokevirtual 142, 3) := by decide +kernel
theorem dL_law_437 : decode cL_law 437 = .ok (.iload 6, 2) := by decide +kernel
theorem dL_law_439 : decode cL_law 439 = .ok (.if_icmp .eq 5, 3) := by decide +kernel
theorem dL_law_442 : decode cL_law 442 = .ok (.iconst 0, 1) := by decide +kernel
theorem dL_law_443 : decode cL_law 443 = .ok (.ireturn, 1) := by decide +kernel
theorem dL_law_444 : decode cL_law 444 = .ok (.iload 6, 2) := by decide +kernel
theorem dL_law_446 : decode cL_law 446 = .ok (.ifCond .ne 15, 3) := by decide +kernel
theorem dL_law_449 : decode cL_law 449 = .ok (.aload_n 3, 1) := by decide +kernel
theorem dL_law_450 : decode cL_law 450 = .ok (.iconst 0, 1) := by decide +kernel
theorem dL_law_451 : decode cL_law 451 = .ok (.laload, 1) := by decide +kernel
theorem dL_law_452 : decode cL_law 452 = .ok (.iload 7, 2) := by decide +kernel
theorem dL_law_454 : decode cL_law 454 = .ok (.i2l, 1) := by decide +kernel
theorem dL_law_455 : decode cL_law 455 = .ok (.lcmp, 1) := by decide +kernel
theorem dL_law_456 : decode cL_law 456 = .ok (.ifCond .eq 5, 3) := by decide +kernel
theorem dL_law_459 : decode cL_law 459 = .ok (.iconst 0, 1) := by decide +kernel
theorem dL_law_460 : decode cL_law 460 = .ok (.ireturn, 1) := by decide +kernel
theorem dL_law_461 : decode cL_law 461 = .ok (.goto 1798, 3) := by decide +kernel
theorem dL_law_464 : decode cL_law 464 = .ok (.aload_n 1, 1) := by decide +kernel
theorem dL_law_465 : decode cL_law 465 = .ok (.aload_n 0, 1) := by decide +kernel
theorem dL_law_466 : decode cL_law 466 = .ok (.iload 5, 2) := by decide +kernel
theorem dL_law_468 : decode cL_law 468 = .ok (.iconst 1, 1) := by decide +kernel
theorem dL_law_469 : decode cL_law 469 = .ok (.iadd, 1) := by decide +kernel
theorem dL_law_470 : decode cL_law 470 = .ok (.iaload, 1) := by decide +kernel
theorem dL_law_471 : decode cL_law 471 = .ok (.aload_n 0, 1) := by decide +kernel
theorem dL_law_472 : decode cL_law 472 = .ok (.iload 5, 2) := by decide +kernel
theorem dL_law_474 : decode cL_law 474 = .ok (.iconst 2, 1) := by decide +kernel
theorem dL_law_475 : decode cL_law 475 = .ok (.iadd, 1) := by decide +kernel
theorem dL_law_476 : decode cL_law 476 = .ok (.iaload, 1) := by decide +kernel
theorem dL_law_477 : decode cL_law 477 = .ok (.aload_n 3, 1) := by decide +kernel
theorem dL_law_478 : decode cL_law 478 = .ok (.invokestatic 155, 3) := by decide +kernel
theorem dL_law_481 : decode cL_law 481 = .ok (.istore 6, 2) := by decide +kernel
theorem dL_law_483 : decode cL_law 483 = .ok (.aload_n 2, 1) := by decide +kernel
theorem dL_law_484 : decode cL_law 484 = .ok (.aload_n 0, 1) := by decide +kernel
theorem dL_law_485 : decode cL_law 485 = .ok (.iload 5, 2) := by decide +kernel
theorem dL_law_487 : decode cL_law 487 = .ok (.iconst 1, 1) := by decide +kernel
theorem dL_law_488 : decode cL_law 488 = .ok (.iadd, 1) := by decide +kernel
theorem dL_law_489 : decode cL_law 489 = .ok (.iaload, 1) := by decide +kernel
theorem dL_law_490 : decode cL_law 490 = .ok (.aload_n 0, 1) := by decide +kernel
theorem dL_law_491 : decode cL_law 491 = .ok (.iload 5, 2) := by decide +kernel
theorem dL_law_493 : decode cL_law 493 = .ok (.iconst 2, 1) := by decide +kernel
theorem dL_law_494 : decode cL_law 494 = .ok (.iadd, 1) := by decide +kernel
theorem dL_law_495 : decode cL_law 495 = .ok (.iaload, 1) := by decide +kernel
theorem dL_law_496 : decode cL_law 496 = .ok (.invokevirtual 157, 3) := by decide +kernel
theorem dL_law_499 : decode cL_law 499 = .ok (.istore 7, 2) := by decide +kernel
theorem dL_law_501 : decode cL_law 501 = .ok (.aload_n 2, 1) := by decide +kernel
theorem dL_law_502 : decode cL_law 502 = .ok (.invokevirtual 142, 3) := by decide +kernel
theorem dL_law_505 : decode cL_law 505 = .ok (.iload 6, 2) := by decide +kernel
theorem dL_law_507 : decode cL_law 507 = .ok (.if_icmp .eq 5, 3) := by decide +kernel
theorem dL_law_510 : decode cL_law 510 = .ok (.iconst 0, 1) := by decide +kernel
theorem dL_law_511 : decode cL_law 511 = .ok (.ireturn, 1) := by decide +kernel
theorem dL_law_512 : decode cL_law 512 = .ok (.iload 6, 2) := by decide +kernel
theorem dL_law_514 : decode cL_law 514 = .ok (.ifCond .ne 15, 3) := by decide +kernel
theorem dL_law_517 : decode cL_law 517 = .ok (.aload_n 3, 1) := by decide +kernel
theorem dL_law_518 : decode cL_law 518 = .ok (.iconst 0, 1) := by decide +kernel
theorem dL_law_519 : decode cL_law 519 = .ok (.laload, 1) := by decide +kernel
theorem dL_law_520 : decode cL_law 520 = .ok (.iload 7, 2) := by decide +kernel
theorem dL_law_522 : decode cL_law 522 = .ok (.i2l, 1) := by decide +kernel
theorem dL_law_523 : decode cL_law 523 = .ok (.lcmp, 1) := by decide +kernel
theorem dL_law_524 : decode cL_law 524 = .ok (.ifCond .eq 5, 3) := by decide +kernel
theorem dL_law_527 : decode cL_law 527 = .ok (.iconst 0, 1) := by decide +kernel
theorem dL_law_528 : decode cL_law 528 = .ok (.ireturn, 1) := by decide +kernel
theorem dL_law_529 : decode cL_law 529 = .ok (.goto 1730, 3) := by decide +kernel
theorem dL_law_532 : decode cL_law 532 = .ok (.aload_n 1, 1) := by decide +kernel
theorem dL_law_533 : decode cL_law 533 = .ok (.aload_n 3, 1) := by decide +kernel
theorem dL_law_534 : decode cL_law 534 = .ok (.invokestatic 158, 3) := by decide +kernel
theorem dL_law_537 : decode cL_law 537 = .ok (.istore 6, 2) := by decide +kernel
theorem dL_law_539 : decode cL_law 539 = .ok (.aload_n 2, 1) := by decide +kernel
theorem dL_law_540 : decode cL_law 540 = .ok (.invokevirtual 161, 3) := by decide +kernel
theorem dL_law_543 : decode cL_law 543 = .ok (.istore 7, 2) := by decide +kernel
theorem dL_law_545 : decode cL_law 545 = .ok (.aload_n 2, 1) := by decide +kernel
theorem dL_law_546 : decode cL_law 546 = .ok (.invokevirtual 142, 3) := by decide +kernel
theorem dL_law_549 : decode cL_law 549 = .ok (.iload 6, 2) := by decide +kernel
theorem dL_law_551 : decode cL_law 551 = .ok (.if_icmp .eq 5, 3) := by decide +kernel
theorem dL_law_554 : decode cL_law 554 = .ok (.iconst 0, 1) := by decide +kernel
theorem dL_law_555 : decode cL_law 555 = .ok (.ireturn, 1) := by decide +kernel
theorem dL_law_556 : decode cL_law 556 = .ok (.iload 6, 2) := by decide +kernel
theorem dL_law_558 : decode cL_law 558 = .ok (.ifCond .ne 15, 3) := by decide +kernel
theorem dL_law_561 : decode cL_law 561 = .ok (.aload_n 3, 1) := by decide +kernel
theorem dL_law_562 : decode cL_law 562 = .ok (.iconst 0, 1) := by decide +kernel
theorem dL_law_563 : decode cL_law 563 = .ok (.laload, 1) := by decide +kernel
theorem dL_law_564 : decode cL_law 564 = .ok (.iload 7, 2) := by decide +kernel
theorem dL_law_566 : decode cL_law 566 = .ok (.i2l, 1) := by decide +kernel
theorem dL_law_567 : decode cL_law 567 = .ok (.lcmp, 1) := by decide +kernel
theorem dL_law_568 : decode cL_law 568 = .ok (.ifCond .eq 5, 3) := by decide +kernel
theorem dL_law_571 : decode cL_law 571 = .ok (.iconst 0, 1) := by decide +kernel
theorem dL_law_572 : decode cL_law 572 = .ok (.ireturn, 1) := by decide +kernel
theorem dL_law_573 : decode cL_law 573 = .ok (.goto 1686, 3) := by decide +kernel
theorem dL_law_576 : decode cL_law 576 = .ok (.aload_n 1, 1) := by decide +kernel
theorem dL_law_577 : decode cL_law 577 = .ok (.aload_n 0, 1) := by decide +kernel
theorem dL_law_578 : decode cL_law 578 = .ok (.iload 5, 2) := by decide +kernel
theorem dL_law_580 : decode cL_law 580 = .ok (.iconst 1, 1) := by decide +kernel
theorem dL_law_581 : decode cL_law 581 = .ok (.iadd, 1) := by decide +kernel
theorem dL_law_582 : decode cL_law 582 = .ok (.iaload, 1) := by decide +kernel
theorem dL_law_583 : decode cL_law 583 = .ok (.aload_n 0, 1) := by decide +kernel
theorem dL_law_584 : decode cL_law 584 = .ok (.iload 5, 2) := by decide +kernel
theorem dL_law_586 : decode cL_law 586 = .ok (.iconst 2, 1) := by decide +kernel
theorem dL_law_587 : decode cL_law 587 = .ok (.iadd, 1) := by decide +kernel
theorem dL_law_588 : decode cL_law 588 = .ok (.iaload, 1) := by decide +kernel
theorem dL_law_589 : decode cL_law 589 = .ok (.aload_n 3, 1) := by decide +kernel
theorem dL_law_590 : decode cL_law 590 = .ok (.invokestatic 162, 3) := by decide +kernel
theorem dL_law_593 : decode cL_law 593 = .ok (.istore 6, 2) := by decide +kernel
theorem dL_law_595 : decode cL_law 595 = .ok (.aload_n 2, 1) := by decide +kernel
theorem dL_law_596 : decode cL_law 596 = .ok (.aload_n 0, 1) := by decide +kernel
theorem dL_law_597 : decode cL_law 597 = .ok (.iload 5, 2) := by decide +kernel
theorem dL_law_599 : decode cL_law 599 = .ok (.iconst 1, 1) := by decide +kernel
theorem dL_law_600 : decode cL_law 600 = .ok (.iadd, 1) := by decide +kernel
theorem dL_law_601 : decode cL_law 601 = .ok (.iaload, 1) := by decide +kernel
theorem dL_law_602 : decode cL_law 602 = .ok (.aload_n 0, 1) := by decide +kernel
theorem dL_law_603 : decode cL_law 603 = .ok (.iload 5, 2) := by decide +kernel
theorem dL_law_605 : decode cL_law 605 = .ok (.iconst 2, 1) := by decide +kernel
theorem dL_law_606 : decode cL_law 606 = .ok (.iadd, 1) := by decide +kernel
theorem dL_law_607 : decode cL_law 607 = .ok (.iaload, 1) := by decide +kernel
theorem dL_law_608 : decode cL_law 608 = .ok (.invokevirtual 164, 3) := by decide +kernel
theorem dL_law_611 : decode cL_law 611 = .ok (.istore 7, 2) := by decide +kernel
theorem dL_law_613 : decode cL_law 613 = .ok (.aload_n 2, 1) := by decide +kernel
theorem dL_law_614 : decode cL_law 614 = .ok (.invokevirtual 142, 3) := by decide +kernel
theorem dL_law_617 : decode cL_law 617 = .ok (.iload 6, 2) := by decide +kernel
theorem dL_law_619 : decode cL_law 619 = .ok (.if_icmp .eq 5, 3) := by decide +kernel
theorem dL_law_622 : decode cL_law 622 = .ok (.iconst 0, 1) := by decide +kernel
theorem dL_law_623 : decode cL_law 623 = .ok (.ireturn, 1) := by decide +kernel
theorem dL_law_624 : decode cL_law 624 = .ok (.iload 6, 2) := by decide +kernel
theorem dL_law_626 : decode cL_law 626 = .ok (.ifCond .ne 15, 3) := by decide +kernel
theorem dL_law_629 : decode cL_law 629 = .ok (.aload_n 3, 1) := by decide +kernel
theorem dL_law_630 : decode cL_law 630 = .ok (.iconst 0, 1) := by decide +kernel
theorem dL_law_631 : decode cL_law 631 = .ok (.laload, 1) := by decide +kernel
theorem dL_law_632 : decode cL_law 632 = .ok (.iload 7, 2) := by decide +kernel
theorem dL_law_634 : decode cL_law 634 = .ok (.i2l, 1) := by decide +kernel
theorem dL_law_635 : decode cL_law 635 = .ok (.lcmp, 1) := by decide +kernel
theorem dL_law_636 : decode cL_law 636 = .ok (.ifCond .eq 5, 3) := by decide +kernel
theorem dL_law_639 : decode cL_law 639 = .ok (.iconst 0, 1) := by decide +kernel
theorem dL_law_640 : decode cL_law 640 = .ok (.ireturn, 1) := by decide +kernel
theorem dL_law_641 : decode cL_law 641 = .ok (.goto 1618, 3) := by decide +kernel
theorem dL_law_644 : decode cL_law 644 = .ok (.aload_n 1, 1) := by decide +kernel
theorem dL_law_645 : decode cL_law 645 = .ok (.aload_n 0, 1) := by decide +kernel
theorem dL_law_646 : decode cL_law 646 = .ok (.iload 5, 2) := by decide +kernel
theorem dL_law_648 : decode cL_law 648 = .ok (.iconst 1, 1) := by decide +kernel
theorem dL_law_649 : decode cL_law 649 = .ok (.iadd, 1) := by decide +kernel
theorem dL_law_650 : decode cL_law 650 = .ok (.iaload, 1) := by decide +kernel
theorem dL_law_651 : decode cL_law 651 = .ok (.aload_n 3, 1) := by decide +kernel
theorem dL_law_652 : decode cL_law 652 = .ok (.invokestatic 165, 3) := by decide +kernel
theorem dL_law_655 : decode cL_law 655 = .ok (.istore 6, 2) := by decide +kernel
theorem dL_law_657 : decode cL_law 657 = .ok (.aload_n 2, 1) := by decide +kernel
theorem dL_law_658 : decode cL_law 658 = .ok (.aload_n 0, 1) := by decide +kernel
theorem dL_law_659 : decode cL_law 659 = .ok (.iload 5, 2) := by decide +kernel
theorem dL_law_661 : decode cL_law 661 = .ok (.iconst 1, 1) := by decide +kernel
theorem dL_law_662 : decode cL_law 662 = .ok (.iadd, 1) := by decide +kernel
theorem dL_law_663 : decode cL_law 663 = .ok (.iaload, 1) := by decide +kernel
theorem dL_law_664 : decode cL_law 664 = .ok (.invokevirtual 167, 3) := by decide +kernel
theorem dL_law_667 : decode cL_law 667 = .ok (.istore 7, 2) := by decide +kernel
theorem dL_law_669 : decode cL_law 669 = .ok (.aload_n 2, 1) := by decide +kernel
theorem dL_law_670 : decode cL_law 670 = .ok (.invokevirtual 142, 3) := by decide +kernel
theorem dL_law_673 : decode cL_law 673 = .ok (.iload 6, 2) := by decide +kernel
theorem dL_law_675 : decode cL_law 675 = .ok (.if_icmp .eq 5, 3) := by decide +kernel
theorem dL_law_678 : decode cL_law 678 = .ok (.iconst 0, 1) := by decide +kernel
theorem dL_law_679 : decode cL_law 679 = .ok (.ireturn, 1) := by decide +kernel
theorem dL_law_680 : decode cL_law 680 = .ok (.iload 6, 2) := by decide +kernel
theorem dL_law_682 : decode cL_law 682 = .ok (.ifCond .ne 15, 3) := by decide +kernel
theorem dL_law_685 : decode cL_law 685 = .ok (.aload_n 3, 1) := by decide +kernel
theorem dL_law_686 : decode cL_law 686 = .ok (.iconst 0, 1) := by decide +kernel
theorem dL_law_687 : decode cL_law 687 = .ok (.laload, 1) := by decide +kernel
theorem dL_law_688 : decode cL_law 688 = .ok (.iload 7, 2) := by decide +kernel
theorem dL_law_690 : decode cL_law 690 = .ok (.i2l, 1) := by decide +kernel
theorem dL_law_691 : decode cL_law 691 = .ok (.lcmp, 1) := by decide +kernel
theorem dL_law_692 : decode cL_law 692 = .ok (.ifCond .eq 5, 3) := by decide +kernel
theorem dL_law_695 : decode cL_law 695 = .ok (.iconst 0, 1) := by decide +kernel
theorem dL_law_696 : decode cL_law 696 = .ok (.ireturn, 1) := by decide +kernel
theorem dL_law_697 : decode cL_law 697 = .ok (.goto 1562, 3) := by decide +kernel
theorem dL_law_700 : decode cL_law 700 = .ok (.aload_n 1, 1) := by decide +kernel
theorem dL_law_701 : decode cL_law 701 = .ok (.aload_n 0, 1) := by decide +kernel
theorem dL_law_702 : decode cL_law 702 = .ok (.iload 5, 2) := by decide +kernel
theorem dL_law_704 : decode cL_law 704 = .ok (.iconst 1, 1) := by decide +kernel
theorem dL_law_705 : decode cL_law 705 = .ok (.iadd, 1) := by decide +kernel
theorem dL_law_706 : decode cL_law 706 = .ok (.iaload, 1) := by decide +kernel
theorem dL_law_707 : decode cL_law 707 = .ok (.aload_n 3, 1) := by decide +kernel
theorem dL_law_708 : decode cL_law 708 = .ok (.invokestatic 168, 3) := by decide +kernel
theorem dL_law_711 : decode cL_law 711 = .ok (.istore 6, 2) := by decide +kernel
theorem dL_law_713 : decode cL_law 713 = .ok (.aload_n 2, 1) := by decide +kernel
theorem dL_law_714 : decode cL_law 714 = .ok (.aload_n 0, 1) := by decide +kernel
theorem dL_law_715 : decode cL_law 715 = .ok (.iload 5, 2) := by decide +kernel
theorem dL_law_717 : decode cL_law 717 = .ok (.iconst 1, 1) := by decide +kernel
theorem dL_law_718 : decode cL_law 718 = .ok (.iadd, 1) := by decide +kernel
theorem dL_law_719 : decode cL_law 719 = .ok (.iaload, 1) := by decide +kernel
theorem dL_law_720 : decode cL_law 720 = .ok (.invokevirtual 170, 3) := by decide +kernel
theorem dL_law_723 : decode cL_law 723 = .ok (.istore 7, 2) := by decide +kernel
theorem dL_law_725 : decode cL_law 725 = .ok (.aload_n 2, 1) := by decide +kernel
theorem dL_law_726 : decode cL_law 726 = .ok (.invokevirtual 142, 3) := by decide +kernel
theorem dL_law_729 : decode cL_law 729 = .ok (.iload 6, 2) := by decide +kernel
theorem dL_law_731 : decode cL_law 731 = .ok (.if_icmp .eq 5, 3) := by decide +kernel
theorem dL_law_734 : decode cL_law 734 = .ok (.iconst 0, 1) := by decide +kernel
theorem dL_law_735 : decode cL_law 735 = .ok (.ireturn, 1) := by decide +kernel
theorem dL_law_736 : decode cL_law 736 = .ok (.iload 6, 2) := by decide +kernel
theorem dL_law_738 : decode cL_law 738 = .ok (.ifCond .ne 15, 3) := by decide +kernel
theorem dL_law_741 : decode cL_law 741 = .ok (.aload_n 3, 1) := by decide +kernel
theorem dL_law_742 : decode cL_law 742 = .ok (.iconst 0, 1) := by decide +kernel
theorem dL_law_743 : decode cL_law 743 = .ok (.laload, 1) := by decide +kernel
theorem dL_law_744 : decode cL_law 744 = .ok (.iload 7, 2) := by decide +kernel
theorem dL_law_746 : decode cL_law 746 = .ok (.i2l, 1) := by decide +kernel
theorem dL_law_747 : decode cL_law 747 = .ok (.lcmp, 1) := by decide +kernel
theorem dL_law_748 : decode cL_law 748 = .ok (.ifCond .eq 5, 3) := by decide +kernel
theorem dL_law_751 : decode cL_law 751 = .ok (.iconst 0, 1) := by decide +kernel
theorem dL_law_752 : decode cL_law 752 = .ok (.ireturn, 1) := by decide +kernel
theorem dL_law_753 : decode cL_law 753 = .ok (.goto 1506, 3) := by decide +kernel
theorem dL_law_756 : decode cL_law 756 = .ok (.aload_n 1, 1) := by decide +kernel
theorem dL_law_757 : decode cL_law 757 = .ok (.aload_n 0, 1) := by decide +kernel
theorem dL_law_758 : decode cL_law 758 = .ok (.iload 5, 2) := by decide +kernel
theorem dL_law_760 : decode cL_law 760 = .ok (.iconst 1, 1) := by decide +kernel
theorem dL_law_761 : decode cL_law 761 = .ok (.iadd, 1) := by decide +kernel
theorem dL_law_762 : decode cL_law 762 = .ok (.iaload, 1) := by decide +kernel
theorem dL_law_763 : decode cL_law 763 = .ok (.aload_n 0, 1) := by decide +kernel
theorem dL_law_764 : decode cL_law 764 = .ok (.iload 5, 2) := by decide +kernel
theorem dL_law_766 : decode cL_law 766 = .ok (.iconst 2, 1) := by decide +kernel
theorem dL_law_767 : decode cL_law 767 = .ok (.iadd, 1) := by decide +kernel
theorem dL_law_768 : decode cL_law 768 = .ok (.iaload, 1) := by decide +kernel
theorem dL_law_769 : decode cL_law 769 = .ok (.aload_n 3, 1) := by decide +kernel
theorem dL_law_770 : decode cL_law 770 = .ok (.invokestatic 171, 3) := by decide +kernel
theorem dL_law_773 : decode cL_law 773 = .ok (.istore 6, 2) := by decide +kernel
theorem dL_law_775 : decode cL_law 775 = .ok (.aload_n 2, 1) := by decide +kernel
theorem dL_law_776 : decode cL_law 776 = .ok (.aload_n 0, 1) := by decide +kernel
theorem dL_law_777 : decode cL_law 777 = .ok (.iload 5, 2) := by decide +kernel
theorem dL_law_779 : decode cL_law 779 = .ok (.iconst 1, 1) := by decide +kernel
theorem dL_law_780 : decode cL_law 780 = .ok (.iadd, 1) := by decide +kernel
theorem dL_law_781 : decode cL_law 781 = .ok (.iaload, 1) := by decide +kernel
theorem dL_law_782 : decode cL_law 782 = .ok (.aload_n 0, 1) := by decide +kernel
theorem dL_law_783 : decode cL_law 783 = .ok (.iload 5, 2) := by decide +kernel
theorem dL_law_785 : decode cL_law 785 = .ok (.iconst 2, 1) := by decide +kernel
theorem dL_law_786 : decode cL_law 786 = .ok (.iadd, 1) := by decide +kernel
theorem dL_law_787 : decode cL_law 787 = .ok (.iaload, 1) := by decide +kernel
theorem dL_law_788 : decode cL_law 788 = .ok (.invokevirtual 173, 3) := by decide +kernel
theorem dL_law_791 : decode cL_law 791 = .ok (.istore 7, 2) := by decide +kernel
theorem dL_law_793 : decode cL_law 793 = .ok (.aload_n 2, 1) := by decide +kernel
theorem dL_law_794 : decode cL_law 794 = .ok (.invokevirtual 142, 3) := by decide +kernel
theorem dL_law_797 : decode cL_law 797 = .ok (.iload 6, 2) := by decide +kernel
theorem dL_law_799 : decode cL_law 799 = .ok (.if_icmp .eq 5, 3) := by decide +kernel
theorem dL_law_802 : decode cL_law 802 = .ok (.iconst 0, 1) := by decide +kernel
theorem dL_law_803 : decode cL_law 803 = .ok (.ireturn, 1) := by decide +kernel
theorem dL_law_804 : decode cL_law 804 = .ok (.iload 6, 2) := by decide +kernel
theorem dL_law_806 : decode cL_law 806 = .ok (.ifCond .ne 15, 3) := by decide +kernel
theorem dL_law_809 : decode cL_law 809 = .ok (.aload_n 3, 1) := by decide +kernel
theorem dL_law_810 : decode cL_law 810 = .ok (.iconst 0, 1) := by decide +kernel
theorem dL_law_811 : decode cL_law 811 = .ok (.laload, 1) := by decide +kernel
theorem dL_law_812 : decode cL_law 812 = .ok (.iload 7, 2) := by decide +kernel
theorem dL_law_814 : decode cL_law 814 = .ok (.i2l, 1) := by decide +kernel
theorem dL_law_815 : decode cL_law 815 = .ok (.lcmp, 1) := by decide +kernel
theorem dL_law_816 : decode cL_law 816 = .ok (.ifCond .eq 5, 3) := by decide +kernel
theorem dL_law_819 : decode cL_law 819 = .ok (.iconst 0, 1) := by decide +kernel
theorem dL_law_820 : decode cL_law 820 = .ok (.ireturn, 1) := by decide +kernel
theorem dL_law_821 : decode cL_law 821 = .ok (.goto 1438, 3) := by decide +kernel
theorem dL_law_824 : decode cL_law 824 = .ok (.aload_n 1, 1) := by decide +kernel
theorem dL_law_825 : decode cL_law 825 = .ok (.aload_n 0, 1) := by decide +kernel
theorem dL_law_826 : decode cL_law 826 = .ok (.iload 5, 2) := by decide +kernel
theorem dL_law_828 : decode cL_law 828 = .ok (.iconst 1, 1) := by decide +kernel
theorem dL_law_829 : decode cL_law 829 = .ok (.iadd, 1) := by decide +kernel
theorem dL_law_830 : decode cL_law 830 = .ok (.iaload, 1) := by decide +kernel
theorem dL_law_831 : decode cL_law 831 = .ok (.aload_n 0, 1) := by decide +kernel
theorem dL_law_832 : decode cL_law 832 = .ok (.iload 5, 2) := by decide +kernel
theorem dL_law_834 : decode cL_law 834 = .ok (.iconst 2, 1) := by decide +kernel
theorem dL_law_835 : decode cL_law 835 = .ok (.iadd, 1) := by decide +kernel
theorem dL_law_836 : decode cL_law 836 = .ok (.iaload, 1) := by decide +kernel
theorem dL_law_837 : decode cL_law 837 = .ok (.aload_n 3, 1) := by decide +kernel
theorem dL_law_838 : decode cL_law 838 = .ok (.invokestatic 174, 3) := by decide +kernel
theorem dL_law_841 : decode cL_law 841 = .ok (.istore 6, 2) := by decide +kernel
theorem dL_law_843 : decode cL_law 843 = .ok (.aload_n 2, 1) := by decide +kernel
theorem dL_law_844 : decode cL_law 844 = .ok (.aload_n 0, 1) := by decide +kernel
theorem dL_law_845 : decode cL_law 845 = .ok (.iload 5, 2) := by decide +kernel
theorem dL_law_847 : decode cL_law 847 = .ok (.iconst 1, 1) := by decide +kernel
theorem dL_law_848 : decode cL_law 848 = .ok (.iadd, 1) := by decide +kernel
theorem dL_law_849 : decode cL_law 849 = .ok (.iaload, 1) := by decide +kernel
theorem dL_law_850 : decode cL_law 850 = .ok (.aload_n 0, 1) := by decide +kernel
theorem dL_law_851 : decode cL_law 851 = .ok (.iload 5, 2) := by decide +kernel
theorem dL_law_853 : decode cL_law 853 = .ok (.iconst 2, 1) := by decide +kernel
theorem dL_law_854 : decode cL_law 854 = .ok (.iadd, 1) := by decide +kernel
theorem dL_law_855 : decode cL_law 855 = .ok (.iaload, 1) := by decide +kernel
theorem dL_law_856 : decode cL_law 856 = .ok (.invokevirtual 176, 3) := by decide +kernel
theorem dL_law_859 : decode cL_law 859 = .ok (.istore 7, 2) := by decide +kernel
theorem dL_law_861 : decode cL_law 861 = .ok (.aload_n 2, 1) := by decide +kernel
theorem dL_law_862 : decode cL_law 862 = .ok (.invokevirtual 142, 3) := by decide +kernel
theorem dL_law_865 : decode cL_law 865 = .ok (.iload 6, 2) := by decide +kernel
theorem dL_law_867 : decode cL_law 867 = .ok (.if_icmp .eq 5, 3) := by decide +kernel
theorem dL_law_870 : decode cL_law 870 = .ok (.iconst 0, 1) := by decide +kernel
theorem dL_law_871 : decode cL_law 871 = .ok (.ireturn, 1) := by decide +kernel
theorem dL_law_872 : decode cL_law 872 = .ok (.iload 6, 2) := by decide +kernel
theorem dL_law_874 : decode cL_law 874 = .ok (.ifCond .ne 15, 3) := by decide +kernel
theorem dL_law_877 : decode cL_law 877 = .ok (.aload_n 3, 1) := by decide +kernel
theorem dL_law_878 : decode cL_law 878 = .ok (.iconst 0, 1) := by decide +kernel
theorem dL_law_879 : decode cL_law 879 = .ok (.laload, 1) := by decide +kernel
theorem dL_law_880 : decode cL_law 880 = .ok (.iload 7, 2) := by decide +kernel
theorem dL_law_882 : decode cL_law 882 = .ok (.i2l, 1) := by decide +kernel
theorem dL_law_883 : decode cL_law 883 = .ok (.lcmp, 1) := by decide +kernel
theorem dL_law_884 : decode cL_law 884 = .ok (.ifCond .eq 5, 3) := by decide +kernel
theorem dL_law_887 : decode cL_law 887 = .ok (.iconst 0, 1) := by decide +kernel
theorem dL_law_888 : decode cL_law 888 = .ok (.ireturn, 1) := by decide +kernel
theorem dL_law_889 : decode cL_law 889 = .ok (.goto 1370, 3) := by decide +kernel
theorem dL_law_892 : decode cL_law 892 = .ok (.aload_n 1, 1) := by decide +kernel
theorem dL_law_893 : decode cL_law 893 = .ok (.aload_n 0, 1) := by decide +kernel
theorem dL_law_894 : decode cL_law 894 = .ok (.iload 5, 2) := by decide +kernel
theorem dL_law_896 : decode cL_law 896 = .ok (.iconst 1, 1) := by decide +kernel
theorem dL_law_897 : decode cL_law 897 = .ok (.iadd, 1) := by decide +kernel
theorem dL_law_898 : decode cL_law 898 = .ok (.iaload, 1) := by decide +kernel
theorem dL_law_899 : decode cL_law 899 = .ok (.aload_n 3, 1) := by decide +kernel
theorem dL_law_900 : decode cL_law 900 = .ok (.invokestatic 177, 3) := by decide +kernel
theorem dL_law_903 : decode cL_law 903 = .ok (.istore 6, 2) := by decide +kernel
theorem dL_law_905 : decode cL_law 905 = .ok (.aload_n 2, 1) := by decide +kernel
theorem dL_law_906 : decode cL_law 906 = .ok (.aload_n 0, 1) := by decide +kernel
theorem dL_law_907 : decode cL_law 907 = .ok (.iload 5, 2) := by decide +kernel
theorem dL_law_909 : decode cL_law 909 = .ok (.iconst 1, 1) := by decide +kernel
theorem dL_law_910 : decode cL_law 910 = .ok (.iadd, 1) := by decide +kernel
theorem dL_law_911 : decode cL_law 911 = .ok (.iaload, 1) := by decide +kernel
theorem dL_law_912 : decode cL_law 912 = .ok (.invokevirtual 179, 3) := by decide +kernel
theorem dL_law_915 : decode cL_law 915 = .ok (.istore 7, 2) := by decide +kernel
theorem dL_law_917 : decode cL_law 917 = .ok (.aload_n 2, 1) := by decide +kernel
theorem dL_law_918 : decode cL_law 918 = .ok (.invokevirtual 142, 3) := by decide +kernel
theorem dL_law_921 : decode cL_law 921 = .ok (.iload 6, 2) := by decide +kernel
theorem dL_law_923 : decode cL_law 923 = .ok (.if_icmp .eq 5, 3) := by decide +kernel
theorem dL_law_926 : decode cL_law 926 = .ok (.iconst 0, 1) := by decide +kernel
theorem dL_law_927 : decode cL_law 927 = .ok (.ireturn, 1) := by decide +kernel
theorem dL_law_928 : decode cL_law 928 = .ok (.iload 6, 2) := by decide +kernel
theorem dL_law_930 : decode cL_law 930 = .ok (.ifCond .ne 15, 3) := by decide +kernel
theorem dL_law_933 : decode cL_law 933 = .ok (.aload_n 3, 1) := by decide +kernel
theorem dL_law_934 : decode cL_law 934 = .ok (.iconst 0, 1) := by decide +kernel
theorem dL_law_935 : decode cL_law 935 = .ok (.laload, 1) := by decide +kernel
theorem dL_law_936 : decode cL_law 936 = .ok (.iload 7, 2) := by decide +kernel
theorem dL_law_938 : decode cL_law 938 = .ok (.i2l, 1) := by decide +kernel
theorem dL_law_939 : decode cL_law 939 = .ok (.lcmp, 1) := by decide +kernel
theorem dL_law_940 : decode cL_law 940 = .ok (.ifCond .eq 5, 3) := by decide +kernel
theorem dL_law_943 : decode cL_law 943 = .ok (.iconst 0, 1) := by decide +kernel
theorem dL_law_944 : decode cL_law 944 = .ok (.ireturn, 1) := by decide +kernel
theorem dL_law_945 : decode cL_law 945 = .ok (.goto 1314, 3) := by decide +kernel
theorem dL_law_948 : decode cL_law 948 = .ok (.aload_n 1, 1) := by decide +kernel
theorem dL_law_949 : decode cL_law 949 = .ok (.aload_n 3, 1) := by decide +kernel
theorem dL_law_950 : decode cL_law 950 = .ok (.invokestatic 180, 3) := by decide +kernel
theorem dL_law_953 : decode cL_law 953 = .ok (.istore 6, 2) := by decide +kernel
theorem dL_law_955 : decode cL_law 955 = .ok (.aload_n 2, 1) := by decide +kernel
theorem dL_law_956 : decode cL_law 956 = .ok (.invokevirtual 182, 3) := by decide +kernel
theorem dL_law_959 : decode cL_law 959 = .ok (.istore 7, 2) := by decide +kernel
theorem dL_law_961 : decode cL_law 961 = .ok (.aload_n 2, 1) := by decide +kernel
theorem dL_law_962 : decode cL_law 962 = .ok (.invokevirtual 142, 3) := by decide +kernel
theorem dL_law_965 : decode cL_law 965 = .ok (.iload 6, 2) := by decide +kernel
theorem dL_law_967 : decode cL_law 967 = .ok (.if_icmp .eq 5, 3) := by decide +kernel
theorem dL_law_970 : decode cL_law 970 = .ok (.iconst 0, 1) := by decide +kernel
theorem dL_law_971 : decode cL_law 971 = .ok (.ireturn, 1) := by decide +kernel
theorem dL_law_972 : decode cL_law 972 = .ok (.iload 6, 2) := by decide +kernel
theorem dL_law_974 : decode cL_law 974 = .ok (.ifCond .ne 15, 3) := by decide +kernel
theorem dL_law_977 : decode cL_law 977 = .ok (.aload_n 3, 1) := by decide +kernel
theorem dL_law_978 : decode cL_law 978 = .ok (.iconst 0, 1) := by decide +kernel
theorem dL_law_979 : decode cL_law 979 = .ok (.laload, 1) := by decide +kernel
theorem dL_law_980 : decode cL_law 980 = .ok (.iload 7, 2) := by decide +kernel
theorem dL_law_982 : decode cL_law 982 = .ok (.i2l, 1) := by decide +kernel
theorem dL_law_983 : decode cL_law 983 = .ok (.lcmp, 1) := by decide +kernel
theorem dL_law_984 : decode cL_law 984 = .ok (.ifCond .eq 5, 3) := by decide +kernel
theorem dL_law_987 : decode cL_law 987 = .ok (.iconst 0, 1) := by decide +kernel
theorem dL_law_988 : decode cL_law 988 = .ok (.ireturn, 1) := by decide +kernel
theorem dL_law_989 : decode cL_law 989 = .ok (.goto 1270, 3) := by decide +kernel
theorem dL_law_992 : decode cL_law 992 = .ok (.aload_n 1, 1) := by decide +kernel
theorem dL_law_993 : decode cL_law 993 = .ok (.aload_n 0, 1) := by decide +kernel
theorem dL_law_994 : decode cL_law 994 = .ok (.iload 5, 2) := by decide +kernel
theorem dL_law_996 : decode cL_law 996 = .ok (.iconst 1, 1) := by decide +kernel
theorem dL_law_997 : decode cL_law 997 = .ok (.iadd, 1) := by decide +kernel
theorem dL_law_998 : decode cL_law 998 = .ok (.iaload, 1) := by decide +kernel
theorem dL_law_999 : decode cL_law 999 = .ok (.aload_n 0, 1) := by decide +kernel
theorem dL_law_1000 : decode cL_law 1000 = .ok (.iload 5, 2) := by decide +kernel
theorem dL_law_1002 : decode cL_law 1002 = .ok (.iconst 2, 1) := by decide +kernel
theorem dL_law_1003 : decode cL_law 1003 = .ok (.iadd, 1) := by decide +kernel
theorem dL_law_1004 : decode cL_law 1004 = .ok (.iaload, 1) := by decide +kernel
theorem dL_law_1005 : decode cL_law 1005 = .ok (.ifCond .eq 7, 3) := by decide +kernel
theorem dL_law_1008 : decode cL_law 1008 = .ok (.iconst 1, 1) := by decide +kernel
theorem dL_law_1009 : decode cL_law 1009 = .ok (.goto 4, 3) := by decide +kernel
theorem dL_law_1012 : decode cL_law 1012 = .ok (.iconst 0, 1) := by decide +kernel
theorem dL_law_1013 : decode cL_law 1013 = .ok (.aload_n 3, 1) := by decide +kernel
theorem dL_law_1014 : decode cL_law 1014 = .ok (.invokestatic 183, 3) := by decide +kernel
theorem dL_law_1017 : decode cL_law 1017 = .ok (.istore 6, 2) := by decide +kernel
theorem dL_law_1019 : decode cL_law 1019 = .ok (.aload_n 2, 1) := by decide +kernel
theorem dL_law_1020 : decode cL_law 1020 = .ok (.aload_n 0, 1) := by decide +kernel
theorem dL_law_1021 : decode cL_law 1021 = .ok (.iload 5, 2) := by decide +kernel
theorem dL_law_1023 : decode cL_law 1023 = .ok (.iconst 1, 1) := by decide +kernel
theorem dL_law_1024 : decode cL_law 1024 = .ok (.iadd, 1) := by decide +kernel
theorem dL_law_1025 : decode cL_law 1025 = .ok (.iaload, 1) := by decide +kernel
theorem dL_law_1026 : decode cL_law 1026 = .ok (.aload_n 0, 1) := by decide +kernel
theorem dL_law_1027 : decode cL_law 1027 = .ok (.iload 5, 2) := by decide +kernel
theorem dL_law_1029 : decode cL_law 1029 = .ok (.iconst 2, 1) := by decide +kernel
theorem dL_law_1030 : decode cL_law 1030 = .ok (.iadd, 1) := by decide +kernel
theorem dL_law_1031 : decode cL_law 1031 = .ok (.iaload, 1) := by decide +kernel
theorem dL_law_1032 : decode cL_law 1032 = .ok (.ifCond .eq 7, 3) := by decide +kernel
theorem dL_law_1035 : decode cL_law 1035 = .ok (.iconst 1, 1) := by decide +kernel
theorem dL_law_1036 : decode cL_law 1036 = .ok (.goto 4, 3) := by decide +kernel
theorem dL_law_1039 : decode cL_law 1039 = .ok (.iconst 0, 1) := by decide +kernel
theorem dL_law_1040 : decode cL_law 1040 = .ok (.invokevirtual 186, 3) := by decide +kernel
theorem dL_law_1043 : decode cL_law 1043 = .ok (.istore 7, 2) := by decide +kernel
theorem dL_law_1045 : decode cL_law 1045 = .ok (.aload_n 2, 1) := by decide +kernel
theorem dL_law_1046 : decode cL_law 1046 = .ok (.invokevirtual 142, 3) := by decide +kernel
theorem dL_law_1049 : decode cL_law 1049 = .ok (.iload 6, 2) := by decide +kernel
theorem dL_law_1051 : decode cL_law 1051 = .ok (.if_icmp .eq 5, 3) := by decide +kernel
theorem dL_law_1054 : decode cL_law 1054 = .ok (.iconst 0, 1) := by decide +kernel
theorem dL_law_1055 : decode cL_law 1055 = .ok (.ireturn, 1) := by decide +kernel
theorem dL_law_1056 : decode cL_law 1056 = .ok (.iload 6, 2) := by decide +kernel
theorem dL_law_1058 : decode cL_law 1058 = .ok (.ifCond .ne 15, 3) := by decide +kernel
theorem dL_law_1061 : decode cL_law 1061 = .ok (.aload_n 3, 1) := by decide +kernel
theorem dL_law_1062 : decode cL_law 1062 = .ok (.iconst 0, 1) := by decide +kernel
theorem dL_law_1063 : decode cL_law 1063 = .ok (.laload, 1) := by decide +kernel
theorem dL_law_1064 : decode cL_law 1064 = .ok (.iload 7, 2) := by decide +kernel
theorem dL_law_1066 : decode cL_law 1066 = .ok (.i2l, 1) := by decide +kernel
theorem dL_law_1067 : decode cL_law 1067 = .ok (.lcmp, 1) := by decide +kernel
theorem dL_law_1068 : decode cL_law 1068 = .ok (.ifCond .eq 5, 3) := by decide +kernel
theorem dL_law_1071 : decode cL_law 1071 = .ok (.iconst 0, 1) := by decide +kernel
theorem dL_law_1072 : decode cL_law 1072 = .ok (.ireturn, 1) := by decide +kernel
theorem dL_law_1073 : decode cL_law 1073 = .ok (.goto 1186, 3) := by decide +kernel
theorem dL_law_1076 : decode cL_law 1076 = .ok (.aload_n 1, 1) := by decide +kernel
theorem dL_law_1077 : decode cL_law 1077 = .ok (.aload_n 0, 1) := by decide +kernel
theorem dL_law_1078 : decode cL_law 1078 = .ok (.iload 5, 2) := by decide +kernel
theorem dL_law_1080 : decode cL_law 1080 = .ok (.iconst 1, 1) := by decide +kernel
theorem dL_law_1081 : decode cL_law 1081 = .ok (.iadd, 1) := by decide +kernel
theorem dL_law_1082 : decode cL_law 1082 = .ok (.iaload, 1) := by decide +kernel
theorem dL_law_1083 : decode cL_law 1083 = .ok (.aload_n 0, 1) := by decide +kernel
theorem dL_law_1084 : decode cL_law 1084 = .ok (.iload 5, 2) := by decide +kernel
theorem dL_law_1086 : decode cL_law 1086 = .ok (.iconst 2, 1) := by decide +kernel
theorem dL_law_1087 : decode cL_law 1087 = .ok (.iadd, 1) := by decide +kernel
theorem dL_law_1088 : decode cL_law 1088 = .ok (.iaload, 1) := by decide +kernel
theorem dL_law_1089 : decode cL_law 1089 = .ok (.aload_n 3, 1) := by decide +kernel
theorem dL_law_1090 : decode cL_law 1090 = .ok (.invokestatic 187, 3) := by decide +kernel
theorem dL_law_1093 : decode cL_law 1093 = .ok (.istore 6, 2) := by decide +kernel
theorem dL_law_1095 : decode cL_law 1095 = .ok (.aload_n 2, 1) := by decide +kernel
theorem dL_law_1096 : decode cL_law 1096 = .ok (.aload_n 0, 1) := by decide +kernel
theorem dL_law_1097 : decode cL_law 1097 = .ok (.iload 5, 2) := by decide +kernel
theorem dL_law_1099 : decode cL_law 1099 = .ok (.iconst 1, 1) := by decide +kernel
theorem dL_law_1100 : decode cL_law 1100 = .ok (.iadd, 1) := by decide +kernel
theorem dL_law_1101 : decode cL_law 1101 = .ok (.iaload, 1) := by decide +kernel
theorem dL_law_1102 : decode cL_law 1102 = .ok (.aload_n 0, 1) := by decide +kernel
theorem dL_law_1103 : decode cL_law 1103 = .ok (.iload 5, 2) := by decide +kernel
theorem dL_law_1105 : decode cL_law 1105 = .ok (.iconst 2, 1) := by decide +kernel
theorem dL_law_1106 : decode cL_law 1106 = .ok (.iadd, 1) := by decide +kernel
theorem dL_law_1107 : decode cL_law 1107 = .ok (.iaload, 1) := by decide +kernel
theorem dL_law_1108 : decode cL_law 1108 = .ok (.invokevirtual 189, 3) := by decide +kernel
theorem dL_law_1111 : decode cL_law 1111 = .ok (.istore 7, 2) := by decide +kernel
theorem dL_law_1113 : decode cL_law 1113 = .ok (.aload_n 2, 1) := by decide +kernel
theorem dL_law_1114 : decode cL_law 1114 = .ok (.invokevirtual 142, 3) := by decide +kernel
theorem dL_law_1117 : decode cL_law 1117 = .ok (.iload 6, 2) := by decide +kernel
theorem dL_law_1119 : decode cL_law 1119 = .ok (.if_icmp .eq 5, 3) := by decide +kernel
theorem dL_law_1122 : decode cL_law 1122 = .ok (.iconst 0, 1) := by decide +kernel
theorem dL_law_1123 : decode cL_law 1123 = .ok (.ireturn, 1) := by decide +kernel
theorem dL_law_1124 : decode cL_law 1124 = .ok (.iload 6, 2) := by decide +kernel
theorem dL_law_1126 : decode cL_law 1126 = .ok (.ifCond .ne 15, 3) := by decide +kernel
theorem dL_law_1129 : decode cL_law 1129 = .ok (.aload_n 3, 1) := by decide +kernel
theorem dL_law_1130 : decode cL_law 1130 = .ok (.iconst 0, 1) := by decide +kernel
theorem dL_law_1131 : decode cL_law 1131 = .ok (.laload, 1) := by decide +kernel
theorem dL_law_1132 : decode cL_law 1132 = .ok (.iload 7, 2) := by decide +kernel
theorem dL_law_1134 : decode cL_law 1134 = .ok (.i2l, 1) := by decide +kernel
theorem dL_law_1135 : decode cL_law 1135 = .ok (.lcmp, 1) := by decide +kernel
theorem dL_law_1136 : decode cL_law 1136 = .ok (.ifCond .eq 5, 3) := by decide +kernel
theorem dL_law_1139 : decode cL_law 1139 = .ok (.iconst 0, 1) := by decide +kernel
theorem dL_law_1140 : decode cL_law 1140 = .ok (.ireturn, 1) := by decide +kernel
theorem dL_law_1141 : decode cL_law 1141 = .ok (.goto 1118, 3) := by decide +kernel
theorem dL_law_1144 : decode cL_law 1144 = .ok (.aload_n 1, 1) := by decide +kernel
theorem dL_law_1145 : decode cL_law 1145 = .ok (.aload_n 0, 1) := by decide +kernel
theorem dL_law_1146 : decode cL_law 1146 = .ok (.iload 5, 2) := by decide +kernel
theorem dL_law_1148 : decode cL_law 1148 = .ok (.iconst 1, 1) := by decide +kernel
theorem dL_law_1149 : decode cL_law 1149 = .ok (.iadd, 1) := by decide +kernel
theorem dL_law_1150 : decode cL_law 1150 = .ok (.iaload, 1) := by decide +kernel
theorem dL_law_1151 : decode cL_law 1151 = .ok (.aload_n 3, 1) := by decide +kernel
theorem dL_law_1152 : decode cL_law 1152 = .ok (.invokestatic 190, 3) := by decide +kernel
theorem dL_law_1155 : decode cL_law 1155 = .ok (.istore 6, 2) := by decide +kernel
theorem dL_law_1157 : decode cL_law 1157 = .ok (.aload_n 2, 1) := by decide +kernel
theorem dL_law_1158 : decode cL_law 1158 = .ok (.aload_n 0, 1) := by decide +kernel
theorem dL_law_1159 : decode cL_law 1159 = .ok (.iload 5, 2) := by decide +kernel
theorem dL_law_1161 : decode cL_law 1161 = .ok (.iconst 1, 1) := by decide +kernel
theorem dL_law_1162 : decode cL_law 1162 = .ok (.iadd, 1) := by decide +kernel
theorem dL_law_1163 : decode cL_law 1163 = .ok (.iaload, 1) := by decide +kernel
theorem dL_law_1164 : decode cL_law 1164 = .ok (.invokevirtual 192, 3) := by decide +kernel
theorem dL_law_1167 : decode cL_law 1167 = .ok (.istore 7, 2) := by decide +kernel
theorem dL_law_1169 : decode cL_law 1169 = .ok (.aload_n 2, 1) := by decide +kernel
theorem dL_law_1170 : decode cL_law 1170 = .ok (.invokevirtual 142, 3) := by decide +kernel
theorem dL_law_1173 : decode cL_law 1173 = .ok (.iload 6, 2) := by decide +kernel
theorem dL_law_1175 : decode cL_law 1175 = .ok (.if_icmp .eq 5, 3) := by decide +kernel
theorem dL_law_1178 : decode cL_law 1178 = .ok (.iconst 0, 1) := by decide +kernel
theorem dL_law_1179 : decode cL_law 1179 = .ok (.ireturn, 1) := by decide +kernel
theorem dL_law_1180 : decode cL_law 1180 = .ok (.iload 6, 2) := by decide +kernel
theorem dL_law_1182 : decode cL_law 1182 = .ok (.ifCond .ne 15, 3) := by decide +kernel
theorem dL_law_1185 : decode cL_law 1185 = .ok (.aload_n 3, 1) := by decide +kernel
theorem dL_law_1186 : decode cL_law 1186 = .ok (.iconst 0, 1) := by decide +kernel
theorem dL_law_1187 : decode cL_law 1187 = .ok (.laload, 1) := by decide +kernel
theorem dL_law_1188 : decode cL_law 1188 = .ok (.iload 7, 2) := by decide +kernel
theorem dL_law_1190 : decode cL_law 1190 = .ok (.i2l, 1) := by decide +kernel
theorem dL_law_1191 : decode cL_law 1191 = .ok (.lcmp, 1) := by decide +kernel
theorem dL_law_1192 : decode cL_law 1192 = .ok (.ifCond .eq 5, 3) := by decide +kernel
theorem dL_law_1195 : decode cL_law 1195 = .ok (.iconst 0, 1) := by decide +kernel
theorem dL_law_1196 : decode cL_law 1196 = .ok (.ireturn, 1) := by decide +kernel
theorem dL_law_1197 : decode cL_law 1197 = .ok (.goto 1062, 3) := by decide +kernel
theorem dL_law_1200 : decode cL_law 1200 = .ok (.aload_n 1, 1) := by decide +kernel
theorem dL_law_1201 : decode cL_law 1201 = .ok (.aload_n 0, 1) := by decide +kernel
theorem dL_law_1202 : decode cL_law 1202 = .ok (.iload 5, 2) := by decide +kernel
theorem dL_law_1204 : decode cL_law 1204 = .ok (.iconst 1, 1) := by decide +kernel
theorem dL_law_1205 : decode cL_law 1205 = .ok (.iadd, 1) := by decide +kernel
theorem dL_law_1206 : decode cL_law 1206 = .ok (.iaload, 1) := by decide +kernel
theorem dL_law_1207 : decode cL_law 1207 = .ok (.aload_n 0, 1) := by decide +kernel
theorem dL_law_1208 : decode cL_law 1208 = .ok (.iload 5, 2) := by decide +kernel
theorem dL_law_1210 : decode cL_law 1210 = .ok (.iconst 2, 1) := by decide +kernel
theorem dL_law_1211 : decode cL_law 1211 = .ok (.iadd, 1) := by decide +kernel
theorem dL_law_1212 : decode cL_law 1212 = .ok (.iaload, 1) := by decide +kernel
theorem dL_law_1213 : decode cL_law 1213 = .ok (.aload_n 3, 1) := by decide +kernel
theorem dL_law_1214 : decode cL_law 1214 = .ok (.invokestatic 193, 3) := by decide +kernel
theorem dL_law_1217 : decode cL_law 1217 = .ok (.istore 6, 2) := by decide +kernel
theorem dL_law_1219 : decode cL_law 1219 = .ok (.aload_n 2, 1) := by decide +kernel
theorem dL_law_1220 : decode cL_law 1220 = .ok (.aload_n 0, 1) := by decide +kernel
theorem dL_law_1221 : decode cL_law 1221 = .ok (.iload 5, 2) := by decide +kernel
theorem dL_law_1223 : decode cL_law 1223 = .ok (.iconst 1, 1) := by decide +kernel
theorem dL_law_1224 : decode cL_law 1224 = .ok (.iadd, 1) := by decide +kernel
theorem dL_law_1225 : decode cL_law 1225 = .ok (.iaload, 1) := by decide +kernel
theorem dL_law_1226 : decode cL_law 1226 = .ok (.aload_n 0, 1) := by decide +kernel
theorem dL_law_1227 : decode cL_law 1227 = .ok (.iload 5, 2) := by decide +kernel
theorem dL_law_1229 : decode cL_law 1229 = .ok (.iconst 2, 1) := by decide +kernel
theorem dL_law_1230 : decode cL_law 1230 = .ok (.iadd, 1) := by decide +kernel
theorem dL_law_1231 : decode cL_law 1231 = .ok (.iaload, 1) := by decide +kernel
theorem dL_law_1232 : decode cL_law 1232 = .ok (.invokevirtual 195, 3) := by decide +kernel
theorem dL_law_1235 : decode cL_law 1235 = .ok (.istore 7, 2) := by decide +kernel
theorem dL_law_1237 : decode cL_law 1237 = .ok (.aload_n 2, 1) := by decide +kernel
theorem dL_law_1238 : decode cL_law 1238 = .ok (.invokevirtual 142, 3) := by decide +kernel
theorem dL_law_1241 : decode cL_law 1241 = .ok (.iload 6, 2) := by decide +kernel
theorem dL_law_1243 : decode cL_law 1243 = .ok (.if_icmp .eq 5, 3) := by decide +kernel
theorem dL_law_1246 : decode cL_law 1246 = .ok (.iconst 0, 1) := by decide +kernel
theorem dL_law_1247 : decode cL_law 1247 = .ok (.ireturn, 1) := by decide +kernel
theorem dL_law_1248 : decode cL_law 1248 = .ok (.iload 6, 2) := by decide +kernel
theorem dL_law_1250 : decode cL_law 1250 = .ok (.ifCond .ne 15, 3) := by decide +kernel
theorem dL_law_1253 : decode cL_law 1253 = .ok (.aload_n 3, 1) := by decide +kernel
theorem dL_law_1254 : decode cL_law 1254 = .ok (.iconst 0, 1) := by decide +kernel
theorem dL_law_1255 : decode cL_law 1255 = .ok (.laload, 1) := by decide +kernel
theorem dL_law_1256 : decode cL_law 1256 = .ok (.iload 7, 2) := by decide +kernel
theorem dL_law_1258 : decode cL_law 1258 = .ok (.i2l, 1) := by decide +kernel
theorem dL_law_1259 : decode cL_law 1259 = .ok (.lcmp, 1) := by decide +kernel
theorem dL_law_1260 : decode cL_law 1260 = .ok (.ifCond .eq 5, 3) := by decide +kernel
theorem dL_law_1263 : decode cL_law 1263 = .ok (.iconst 0, 1) := by decide +kernel
theorem dL_law_1264 : decode cL_law 1264 = .ok (.ireturn, 1) := by decide +kernel
theorem dL_law_1265 : decode cL_law 1265 = .ok (.goto 994, 3) := by decide +kernel
theorem dL_law_1268 : decode cL_law 1268 = .ok (.aload_n 1, 1) := by decide +kernel
theorem dL_law_1269 : decode cL_law 1269 = .ok (.aload_n 0, 1) := by decide +kernel
theorem dL_law_1270 : decode cL_law 1270 = .ok (.iload 5, 2) := by decide +kernel
theorem dL_law_1272 : decode cL_law 1272 = .ok (.iconst 1, 1) := by decide +kernel
theorem dL_law_1273 : decode cL_law 1273 = .ok (.iadd, 1) := by decide +kernel
theorem dL_law_1274 : decode cL_law 1274 = .ok (.iaload, 1) := by decide +kernel
theorem dL_law_1275 : decode cL_law 1275 = .ok (.aload_n 3, 1) := by decide +kernel
theorem dL_law_1276 : decode cL_law 1276 = .ok (.invokestatic 196, 3) := by decide +kernel
theorem dL_law_1279 : decode cL_law 1279 = .ok (.istore 6, 2) := by decide +kernel
theorem dL_law_1281 : decode cL_law 1281 = .ok (.aload_n 2, 1) := by decide +kernel
theorem dL_law_1282 : decode cL_law 1282 = .ok (.aload_n 0, 1) := by decide +kernel
theorem dL_law_1283 : decode cL_law 1283 = .ok (.iload 5, 2) := by decide +kernel
theorem dL_law_1285 : decode cL_law 1285 = .ok (.iconst 1, 1) := by decide +kernel
theorem dL_law_1286 : decode cL_law 1286 = .ok (.iadd, 1) := by decide +kernel
theorem dL_law_1287 : decode cL_law 1287 = .ok (.iaload, 1) := by decide +kernel
theorem dL_law_1288 : decode cL_law 1288 = .ok (.invokevirtual 198, 3) := by decide +kernel
theorem dL_law_1291 : decode cL_law 1291 = .ok (.istore 7, 2) := by decide +kernel
theorem dL_law_1293 : decode cL_law 1293 = .ok (.aload_n 2, 1) := by decide +kernel
theorem dL_law_1294 : decode cL_law 1294 = .ok (.invokevirtual 142, 3) := by decide +kernel
theorem dL_law_1297 : decode cL_law 1297 = .ok (.iload 6, 2) := by decide +kernel
theorem dL_law_1299 : decode cL_law 1299 = .ok (.if_icmp .eq 5, 3) := by decide +kernel
theorem dL_law_1302 : decode cL_law 1302 = .ok (.iconst 0, 1) := by decide +kernel
theorem dL_law_1303 : decode cL_law 1303 = .ok (.ireturn, 1) := by decide +kernel
theorem dL_law_1304 : decode cL_law 1304 = .ok (.iload 6, 2) := by decide +kernel
theorem dL_law_1306 : decode cL_law 1306 = .ok (.ifCond .ne 15, 3) := by decide +kernel
theorem dL_law_1309 : decode cL_law 1309 = .ok (.aload_n 3, 1) := by decide +kernel
theorem dL_law_1310 : decode cL_law 1310 = .ok (.iconst 0, 1) := by decide +kernel
theorem dL_law_1311 : decode cL_law 1311 = .ok (.laload, 1) := by decide +kernel
theorem dL_law_1312 : decode cL_law 1312 = .ok (.iload 7, 2) := by decide +kernel
theorem dL_law_1314 : decode cL_law 1314 = .ok (.i2l, 1) := by decide +kernel
theorem dL_law_1315 : decode cL_law 1315 = .ok (.lcmp, 1) := by decide +kernel
theorem dL_law_1316 : decode cL_law 1316 = .ok (.ifCond .eq 5, 3) := by decide +kernel
theorem dL_law_1319 : decode cL_law 1319 = .ok (.iconst 0, 1) := by decide +kernel
theorem dL_law_1320 : decode cL_law 1320 = .ok (.ireturn, 1) := by decide +kernel
theorem dL_law_1321 : decode cL_law 1321 = .ok (.goto 938, 3) := by decide +kernel
theorem dL_law_1324 : decode cL_law 1324 = .ok (.aload_n 1, 1) := by decide +kernel
theorem dL_law_1325 : decode cL_law 1325 = .ok (.aload_n 0, 1) := by decide +kernel
theorem dL_law_1326 : decode cL_law 1326 = .ok (.iload 5, 2) := by decide +kernel
theorem dL_law_1328 : decode cL_law 1328 = .ok (.iconst 1, 1) := by decide +kernel
theorem dL_law_1329 : decode cL_law 1329 = .ok (.iadd, 1) := by decide +kernel
theorem dL_law_1330 : decode cL_law 1330 = .ok (.iaload, 1) := by decide +kernel
theorem dL_law_1331 : decode cL_law 1331 = .ok (.aload_n 3, 1) := by decide +kernel
theorem dL_law_1332 : decode cL_law 1332 = .ok (.invokestatic 199, 3) := by decide +kernel
theorem dL_law_1335 : decode cL_law 1335 = .ok (.istore 6, 2) := by decide +kernel
theorem dL_law_1337 : decode cL_law 1337 = .ok (.aload_n 2, 1) := by decide +kernel
theorem dL_law_1338 : decode cL_law 1338 = .ok (.aload_n 0, 1) := by decide +kernel
theorem dL_law_1339 : decode cL_law 1339 = .ok (.iload 5, 2) := by decide +kernel
theorem dL_law_1341 : decode cL_law 1341 = .ok (.iconst 1, 1) := by decide +kernel
theorem dL_law_1342 : decode cL_law 1342 = .ok (.iadd, 1) := by decide +kernel
theorem dL_law_1343 : decode cL_law 1343 = .ok (.iaload, 1) := by decide +kernel
theorem dL_law_1344 : decode cL_law 1344 = .ok (.invokevirtual 201, 3) := by decide +kernel
theorem dL_law_1347 : decode cL_law 1347 = .ok (.istore 7, 2) := by decide +kernel
theorem dL_law_1349 : decode cL_law 1349 = .ok (.aload_n 2, 1) := by decide +kernel
theorem dL_law_1350 : decode cL_law 1350 = .ok (.invokevirtual 142, 3) := by decide +kernel
theorem dL_law_1353 : decode cL_law 1353 = .ok (.iload 6, 2) := by decide +kernel
theorem dL_law_1355 : decode cL_law 1355 = .ok (.if_icmp .eq 5, 3) := by decide +kernel
theorem dL_law_1358 : decode cL_law 1358 = .ok (.iconst 0, 1) := by decide +kernel
theorem dL_law_1359 : decode cL_law 1359 = .ok (.ireturn, 1) := by decide +kernel
theorem dL_law_1360 : decode cL_law 1360 = .ok (.iload 6, 2) := by decide +kernel
theorem dL_law_1362 : decode cL_law 1362 = .ok (.ifCond .ne 15, 3) := by decide +kernel
theorem dL_law_1365 : decode cL_law 1365 = .ok (.aload_n 3, 1) := by decide +kernel
theorem dL_law_1366 : decode cL_law 1366 = .ok (.iconst 0, 1) := by decide +kernel
theorem dL_law_1367 : decode cL_law 1367 = .ok (.laload, 1) := by decide +kernel
theorem dL_law_1368 : decode cL_law 1368 = .ok (.iload 7, 2) := by decide +kernel
theorem dL_law_1370 : decode cL_law 1370 = .ok (.i2l, 1) := by decide +kernel
theorem dL_law_1371 : decode cL_law 1371 = .ok (.lcmp, 1) := by decide +kernel
theorem dL_law_1372 : decode cL_law 1372 = .ok (.ifCond .eq 5, 3) := by decide +kernel
theorem dL_law_1375 : decode cL_law 1375 = .ok (.iconst 0, 1) := by decide +kernel
theorem dL_law_1376 : decode cL_law 1376 = .ok (.ireturn, 1) := by decide +kernel
theorem dL_law_1377 : decode cL_law 1377 = .ok (.goto 882, 3) := by decide +kernel
theorem dL_law_1380 : decode cL_law 1380 = .ok (.aload_n 1, 1) := by decide +kernel
theorem dL_law_1381 : decode cL_law 1381 = .ok (.aload_n 0, 1) := by decide +kernel
theorem dL_law_1382 : decode cL_law 1382 = .ok (.iload 5, 2) := by decide +kernel
theorem dL_law_1384 : decode cL_law 1384 = .ok (.iconst 1, 1) := by decide +kernel
theorem dL_law_1385 : decode cL_law 1385 = .ok (.iadd, 1) := by decide +kernel
theorem dL_law_1386 : decode cL_law 1386 = .ok (.iaload, 1) := by decide +kernel
theorem dL_law_1387 : decode cL_law 1387 = .ok (.aload_n 3, 1) := by decide +kernel
theorem dL_law_1388 : decode cL_law 1388 = .ok (.invokestatic 202, 3) := by decide +kernel
theorem dL_law_1391 : decode cL_law 1391 = .ok (.istore 6, 2) := by decide +kernel
theorem dL_law_1393 : decode cL_law 1393 = .ok (.aload_n 2, 1) := by decide +kernel
theorem dL_law_1394 : decode cL_law 1394 = .ok (.aload_n 0, 1) := by decide +kernel
theorem dL_law_1395 : decode cL_law 1395 = .ok (.iload 5, 2) := by decide +kernel
theorem dL_law_1397 : decode cL_law 1397 = .ok (.iconst 1, 1) := by decide +kernel
theorem dL_law_1398 : decode cL_law 1398 = .ok (.iadd, 1) := by decide +kernel
theorem dL_law_1399 : decode cL_law 1399 = .ok (.iaload, 1) := by decide +kernel
theorem dL_law_1400 : decode cL_law 1400 = .ok (.invokevirtual 204, 3) := by decide +kernel
theorem dL_law_1403 : decode cL_law 1403 = .ok (.istore 7, 2) := by decide +kernel
theorem dL_law_1405 : decode cL_law 1405 = .ok (.aload_n 2, 1) := by decide +kernel
theorem dL_law_1406 : decode cL_law 1406 = .ok (.invokevirtual 142, 3) := by decide +kernel
theorem dL_law_1409 : decode cL_law 1409 = .ok (.iload 6, 2) := by decide +kernel
theorem dL_law_1411 : decode cL_law 1411 = .ok (.if_icmp .eq 5, 3) := by decide +kernel
theorem dL_law_1414 : decode cL_law 1414 = .ok (.iconst 0, 1) := by decide +kernel
theorem dL_law_1415 : decode cL_law 1415 = .ok (.ireturn, 1) := by decide +kernel
theorem dL_law_1416 : decode cL_law 1416 = .ok (.iload 6, 2) := by decide +kernel
theorem dL_law_1418 : decode cL_law 1418 = .ok (.ifCond .ne 15, 3) := by decide +kernel
theorem dL_law_1421 : decode cL_law 1421 = .ok (.aload_n 3, 1) := by decide +kernel
theorem dL_law_1422 : decode cL_law 1422 = .ok (.iconst 0, 1) := by decide +kernel
theorem dL_law_1423 : decode cL_law 1423 = .ok (.laload, 1) := by decide +kernel
theorem dL_law_1424 : decode cL_law 1424 = .ok (.iload 7, 2) := by decide +kernel
theorem dL_law_1426 : decode cL_law 1426 = .ok (.i2l, 1) := by decide +kernel
theorem dL_law_1427 : decode cL_law 1427 = .ok (.lcmp, 1) := by decide +kernel
theorem dL_law_1428 : decode cL_law 1428 = .ok (.ifCond .eq 5, 3) := by decide +kernel
theorem dL_law_1431 : decode cL_law 1431 = .ok (.iconst 0, 1) := by decide +kernel
theorem dL_law_1432 : decode cL_law 1432 = .ok (.ireturn, 1) := by decide +kernel
theorem dL_law_1433 : decode cL_law 1433 = .ok (.goto 826, 3) := by decide +kernel
theorem dL_law_1436 : decode cL_law 1436 = .ok (.aload_n 1, 1) := by decide +kernel
theorem dL_law_1437 : decode cL_law 1437 = .ok (.aload_n 0, 1) := by decide +kernel
theorem dL_law_1438 : decode cL_law 1438 = .ok (.iload 5, 2) := by decide +kernel
theorem dL_law_1440 : decode cL_law 1440 = .ok (.iconst 1, 1) := by decide +kernel
theorem dL_law_1441 : decode cL_law 1441 = .ok (.iadd, 1) := by decide +kernel
theorem dL_law_1442 : decode cL_law 1442 = .ok (.iaload, 1) := by decide +kernel
theorem dL_law_1443 : decode cL_law 1443 = .ok (.aload_n 0, 1) := by decide +kernel
theorem dL_law_1444 : decode cL_law 1444 = .ok (.iload 5, 2) := by decide +kernel
theorem dL_law_1446 : decode cL_law 1446 = .ok (.iconst 2, 1) := by decide +kernel
theorem dL_law_1447 : decode cL_law 1447 = .ok (.iadd, 1) := by decide +kernel
theorem dL_law_1448 : decode cL_law 1448 = .ok (.iaload, 1) := by decide +kernel
theorem dL_law_1449 : decode cL_law 1449 = .ok (.aload_n 3, 1) := by decide +kernel
theorem dL_law_1450 : decode cL_law 1450 = .ok (.invokestatic 205, 3) := by decide +kernel
theorem dL_law_1453 : decode cL_law 1453 = .ok (.istore 6, 2) := by decide +kernel
theorem dL_law_1455 : decode cL_law 1455 = .ok (.aload_n 2, 1) := by decide +kernel
theorem dL_law_1456 : decode cL_law 1456 = .ok (.aload_n 0, 1) := by decide +kernel
theorem dL_law_1457 : decode cL_law 1457 = .ok (.iload 5, 2) := by decide +kernel
theorem dL_law_1459 : decode cL_law 1459 = .ok (.iconst 1, 1) := by decide +kernel
theorem dL_law_1460 : decode cL_law 1460 = .ok (.iadd, 1) := by decide +kernel
theorem dL_law_1461 : decode cL_law 1461 = .ok (.iaload, 1) := by decide +kernel
theorem dL_law_1462 : decode cL_law 1462 = .ok (.aload_n 0, 1) := by decide +kernel
theorem dL_law_1463 : decode cL_law 1463 = .ok (.iload 5, 2) := by decide +kernel
theorem dL_law_1465 : decode cL_law 1465 = .ok (.iconst 2, 1) := by decide +kernel
theorem dL_law_1466 : decode cL_law 1466 = .ok (.iadd, 1) := by decide +kernel
theorem dL_law_1467 : decode cL_law 1467 = .ok (.iaload, 1) := by decide +kernel
theorem dL_law_1468 : decode cL_law 1468 = .ok (.invokevirtual 207, 3) := by decide +kernel
theorem dL_law_1471 : decode cL_law 1471 = .ok (.istore 7, 2) := by decide +kernel
theorem dL_law_1473 : decode cL_law 1473 = .ok (.aload_n 2, 1) := by decide +kernel
theorem dL_law_1474 : decode cL_law 1474 = .ok (.invokevirtual 142, 3) := by decide +kernel
theorem dL_law_1477 : decode cL_law 1477 = .ok (.iload 6, 2) := by decide +kernel
theorem dL_law_1479 : decode cL_law 1479 = .ok (.if_icmp .eq 5, 3) := by decide +kernel
theorem dL_law_1482 : decode cL_law 1482 = .ok (.iconst 0, 1) := by decide +kernel
theorem dL_law_1483 : decode cL_law 1483 = .ok (.ireturn, 1) := by decide +kernel
theorem dL_law_1484 : decode cL_law 1484 = .ok (.iload 6, 2) := by decide +kernel
theorem dL_law_1486 : decode cL_law 1486 = .ok (.ifCond .ne 15, 3) := by decide +kernel
theorem dL_law_1489 : decode cL_law 1489 = .ok (.aload_n 3, 1) := by decide +kernel
theorem dL_law_1490 : decode cL_law 1490 = .ok (.iconst 0, 1) := by decide +kernel
theorem dL_law_1491 : decode cL_law 1491 = .ok (.laload, 1) := by decide +kernel
theorem dL_law_1492 : decode cL_law 1492 = .ok (.iload 7, 2) := by decide +kernel
theorem dL_law_1494 : decode cL_law 1494 = .ok (.i2l, 1) := by decide +kernel
theorem dL_law_1495 : decode cL_law 1495 = .ok (.lcmp, 1) := by decide +kernel
theorem dL_law_1496 : decode cL_law 1496 = .ok (.ifCond .eq 5, 3) := by decide +kernel
theorem dL_law_1499 : decode cL_law 1499 = .ok (.iconst 0, 1) := by decide +kernel
theorem dL_law_1500 : decode cL_law 1500 = .ok (.ireturn, 1) := by decide +kernel
theorem dL_law_1501 : decode cL_law 1501 = .ok (.goto 758, 3) := by decide +kernel
theorem dL_law_1504 : decode cL_law 1504 = .ok (.aload_n 1, 1) := by decide +kernel
theorem dL_law_1505 : decode cL_law 1505 = .ok (.aload_n 0, 1) := by decide +kernel
theorem dL_law_1506 : decode cL_law 1506 = .ok (.iload 5, 2) := by decide +kernel
theorem dL_law_1508 : decode cL_law 1508 = .ok (.iconst 1, 1) := by decide +kernel
theorem dL_law_1509 : decode cL_law 1509 = .ok (.iadd, 1) := by decide +kernel
theorem dL_law_1510 : decode cL_law 1510 = .ok (.iaload, 1) := by decide +kernel
theorem dL_law_1511 : decode cL_law 1511 = .ok (.aload_n 0, 1) := by decide +kernel
theorem dL_law_1512 : decode cL_law 1512 = .ok (.iload 5, 2) := by decide +kernel
theorem dL_law_1514 : decode cL_law 1514 = .ok (.iconst 2, 1) := by decide +kernel
theorem dL_law_1515 : decode cL_law 1515 = .ok (.iadd, 1) := by decide +kernel
theorem dL_law_1516 : decode cL_law 1516 = .ok (.iaload, 1) := by decide +kernel
theorem dL_law_1517 : decode cL_law 1517 = .ok (.aload_n 3, 1) := by decide +kernel
theorem dL_law_1518 : decode cL_law 1518 = .ok (.invokestatic 208, 3) := by decide +kernel
theorem dL_law_1521 : decode cL_law 1521 = .ok (.istore 6, 2) := by decide +kernel
theorem dL_law_1523 : decode cL_law 1523 = .ok (.aload_n 2, 1) := by decide +kernel
theorem dL_law_1524 : decode cL_law 1524 = .ok (.aload_n 0, 1) := by decide +kernel
theorem dL_law_1525 : decode cL_law 1525 = .ok (.iload 5, 2) := by decide +kernel
theorem dL_law_1527 : decode cL_law 1527 = .ok (.iconst 1, 1) := by decide +kernel
theorem dL_law_1528 : decode cL_law 1528 = .ok (.iadd, 1) := by decide +kernel
theorem dL_law_1529 : decode cL_law 1529 = .ok (.iaload, 1) := by decide +kernel
theorem dL_law_1530 : decode cL_law 1530 = .ok (.aload_n 0, 1) := by decide +kernel
theorem dL_law_1531 : decode cL_law 1531 = .ok (.iload 5, 2) := by decide +kernel
theorem dL_law_1533 : decode cL_law 1533 = .ok (.iconst 2, 1) := by decide +kernel
theorem dL_law_1534 : decode cL_law 1534 = .ok (.iadd, 1) := by decide +kernel
theorem dL_law_1535 : decode cL_law 1535 = .ok (.iaload, 1) := by decide +kernel
theorem dL_law_1536 : decode cL_law 1536 = .ok (.invokevirtual 210, 3) := by decide +kernel
theorem dL_law_1539 : decode cL_law 1539 = .ok (.istore 7, 2) := by decide +kernel
theorem dL_law_1541 : decode cL_law 1541 = .ok (.aload_n 2, 1) := by decide +kernel
theorem dL_law_1542 : decode cL_law 1542 = .ok (.invokevirtual 142, 3) := by decide +kernel
theorem dL_law_1545 : decode cL_law 1545 = .ok (.iload 6, 2) := by decide +kernel
theorem dL_law_1547 : decode cL_law 1547 = .ok (.if_icmp .eq 5, 3) := by decide +kernel
theorem dL_law_1550 : decode cL_law 1550 = .ok (.iconst 0, 1) := by decide +kernel
theorem dL_law_1551 : decode cL_law 1551 = .ok (.ireturn, 1) := by decide +kernel
theorem dL_law_1552 : decode cL_law 1552 = .ok (.iload 6, 2) := by decide +kernel
theorem dL_law_1554 : decode cL_law 1554 = .ok (.ifCond .ne 15, 3) := by decide +kernel
theorem dL_law_1557 : decode cL_law 1557 = .ok (.aload_n 3, 1) := by decide +kernel
theorem dL_law_1558 : decode cL_law 1558 = .ok (.iconst 0, 1) := by decide +kernel
theorem dL_law_1559 : decode cL_law 1559 = .ok (.laload, 1) := by decide +kernel
theorem dL_law_1560 : decode cL_law 1560 = .ok (.iload 7, 2) := by decide +kernel
theorem dL_law_1562 : decode cL_law 1562 = .ok (.i2l, 1) := by decide +kernel
theorem dL_law_1563 : decode cL_law 1563 = .ok (.lcmp, 1) := by decide +kernel
theorem dL_law_1564 : decode cL_law 1564 = .ok (.ifCond .eq 5, 3) := by decide +kernel
theorem dL_law_1567 : decode cL_law 1567 = .ok (.iconst 0, 1) := by decide +kernel
theorem dL_law_1568 : decode cL_law 1568 = .ok (.ireturn, 1) := by decide +kernel
theorem dL_law_1569 : decode cL_law 1569 = .ok (.goto 690, 3) := by decide +kernel
theorem dL_law_1572 : decode cL_law 1572 = .ok (.aload_n 1, 1) := by decide +kernel
theorem dL_law_1573 : decode cL_law 1573 = .ok (.aload_n 0, 1) := by decide +kernel
theorem dL_law_1574 : decode cL_law 1574 = .ok (.iload 5, 2) := by decide +kernel
theorem dL_law_1576 : decode cL_law 1576 = .ok (.iconst 1, 1) := by decide +kernel
theorem dL_law_1577 : decode cL_law 1577 = .ok (.iadd, 1) := by decide +kernel
theorem dL_law_1578 : decode cL_law 1578 = .ok (.iaload, 1) := by decide +kernel
theorem dL_law_1579 : decode cL_law 1579 = .ok (.aload_n 3, 1) := by decide +kernel
theorem dL_law_1580 : decode cL_law 1580 = .ok (.invokestatic 211, 3) := by decide +kernel
theorem dL_law_1583 : decode cL_law 1583 = .ok (.istore 6, 2) := by decide +kernel
theorem dL_law_1585 : decode cL_law 1585 = .ok (.aload_n 2, 1) := by decide +kernel
theorem dL_law_1586 : decode cL_law 1586 = .ok (.aload_n 0, 1) := by decide +kernel
theorem dL_law_1587 : decode cL_law 1587 = .ok (.iload 5, 2) := by decide +kernel
theorem dL_law_1589 : decode cL_law 1589 = .ok (.iconst 1, 1) := by decide +kernel
theorem dL_law_1590 : decode cL_law 1590 = .ok (.iadd, 1) := by decide +kernel
theorem dL_law_1591 : decode cL_law 1591 = .ok (.iaload, 1) := by decide +kernel
theorem dL_law_1592 : decode cL_law 1592 = .ok (.invokevirtual 213, 3) := by decide +kernel
theorem dL_law_1595 : decode cL_law 1595 = .ok (.istore 7, 2) := by decide +kernel
theorem dL_law_1597 : decode cL_law 1597 = .ok (.aload_n 2, 1) := by decide +kernel
theorem dL_law_1598 : decode cL_law 1598 = .ok (.invokevirtual 142, 3) := by decide +kernel
theorem dL_law_1601 : decode cL_law 1601 = .ok (.iload 6, 2) := by decide +kernel
theorem dL_law_1603 : decode cL_law 1603 = .ok (.if_icmp .eq 5, 3) := by decide +kernel
theorem dL_law_1606 : decode cL_law 1606 = .ok (.iconst 0, 1) := by decide +kernel
theorem dL_law_1607 : decode cL_law 1607 = .ok (.ireturn, 1) := by decide +kernel
theorem dL_law_1608 : decode cL_law 1608 = .ok (.iload 6, 2) := by decide +kernel
theorem dL_law_1610 : decode cL_law 1610 = .ok (.ifCond .ne 15, 3) := by decide +kernel
theorem dL_law_1613 : decode cL_law 1613 = .ok (.aload_n 3, 1) := by decide +kernel
theorem dL_law_1614 : decode cL_law 1614 = .ok (.iconst 0, 1) := by decide +kernel
theorem dL_law_1615 : decode cL_law 1615 = .ok (.laload, 1) := by decide +kernel
theorem dL_law_1616 : decode cL_law 1616 = .ok (.iload 7, 2) := by decide +kernel
theorem dL_law_1618 : decode cL_law 1618 = .ok (.i2l, 1) := by decide +kernel
theorem dL_law_1619 : decode cL_law 1619 = .ok (.lcmp, 1) := by decide +kernel
theorem dL_law_1620 : decode cL_law 1620 = .ok (.ifCond .eq 5, 3) := by decide +kernel
theorem dL_law_1623 : decode cL_law 1623 = .ok (.iconst 0, 1) := by decide +kernel
theorem dL_law_1624 : decode cL_law 1624 = .ok (.ireturn, 1) := by decide +kernel
theorem dL_law_1625 : decode cL_law 1625 = .ok (.goto 634, 3) := by decide +kernel
theorem dL_law_1628 : decode cL_law 1628 = .ok (.aload_n 1, 1) := by decide +kernel
theorem dL_law_1629 : decode cL_law 1629 = .ok (.aload_n 0, 1) := by decide +kernel
theorem dL_law_1630 : decode cL_law 1630 = .ok (.iload 5, 2) := by decide +kernel
theorem dL_law_1632 : decode cL_law 1632 = .ok (.iconst 1, 1) := by decide +kernel
theorem dL_law_1633 : decode cL_law 1633 = .ok (.iadd, 1) := by decide +kernel
theorem dL_law_1634 : decode cL_law 1634 = .ok (.iaload, 1) := by decide +kernel
theorem dL_law_1635 : decode cL_law 1635 = .ok (.aload_n 3, 1) := by decide +kernel
theorem dL_law_1636 : decode cL_law 1636 = .ok (.invokestatic 214, 3) := by decide +kernel
theorem dL_law_1639 : decode cL_law 1639 = .ok (.istore 6, 2) := by decide +kernel
theorem dL_law_1641 : decode cL_law 1641 = .ok (.aload_n 2, 1) := by decide +kernel
theorem dL_law_1642 : decode cL_law 1642 = .ok (.aload_n 0, 1) := by decide +kernel
theorem dL_law_1643 : decode cL_law 1643 = .ok (.iload 5, 2) := by decide +kernel
theorem dL_law_1645 : decode cL_law 1645 = .ok (.iconst 1, 1) := by decide +kernel
theorem dL_law_1646 : decode cL_law 1646 = .ok (.iadd, 1) := by decide +kernel
theorem dL_law_1647 : decode cL_law 1647 = .ok (.iaload, 1) := by decide +kernel
theorem dL_law_1648 : decode cL_law 1648 = .ok (.invokevirtual 216, 3) := by decide +kernel
theorem dL_law_1651 : decode cL_law 1651 = .ok (.istore 7, 2) := by decide +kernel
theorem dL_law_1653 : decode cL_law 1653 = .ok (.aload_n 2, 1) := by decide +kernel
theorem dL_law_1654 : decode cL_law 1654 = .ok (.invokevirtual 142, 3) := by decide +kernel
theorem dL_law_1657 : decode cL_law 1657 = .ok (.iload 6, 2) := by decide +kernel
theorem dL_law_1659 : decode cL_law 1659 = .ok (.if_icmp .eq 5, 3) := by decide +kernel
theorem dL_law_1662 : decode cL_law 1662 = .ok (.iconst 0, 1) := by decide +kernel
theorem dL_law_1663 : decode cL_law 1663 = .ok (.ireturn, 1) := by decide +kernel
theorem dL_law_1664 : decode cL_law 1664 = .ok (.iload 6, 2) := by decide +kernel
theorem dL_law_1666 : decode cL_law 1666 = .ok (.ifCond .ne 15, 3) := by decide +kernel
theorem dL_law_1669 : decode cL_law 1669 = .ok (.aload_n 3, 1) := by decide +kernel
theorem dL_law_1670 : decode cL_law 1670 = .ok (.iconst 0, 1) := by decide +kernel
theorem dL_law_1671 : decode cL_law 1671 = .ok (.laload, 1) := by decide +kernel
theorem dL_law_1672 : decode cL_law 1672 = .ok (.iload 7, 2) := by decide +kernel
theorem dL_law_1674 : decode cL_law 1674 = .ok (.i2l, 1) := by decide +kernel
theorem dL_law_1675 : decode cL_law 1675 = .ok (.lcmp, 1) := by decide +kernel
theorem dL_law_1676 : decode cL_law 1676 = .ok (.ifCond .eq 5, 3) := by decide +kernel
theorem dL_law_1679 : decode cL_law 1679 = .ok (.iconst 0, 1) := by decide +kernel
theorem dL_law_1680 : decode cL_law 1680 = .ok (.ireturn, 1) := by decide +kernel
theorem dL_law_1681 : decode cL_law 1681 = .ok (.goto 578, 3) := by decide +kernel
theorem dL_law_1684 : decode cL_law 1684 = .ok (.aload_n 1, 1) := by decide +kernel
theorem dL_law_1685 : decode cL_law 1685 = .ok (.aload_n 0, 1) := by decide +kernel
theorem dL_law_1686 : decode cL_law 1686 = .ok (.iload 5, 2) := by decide +kernel
theorem dL_law_1688 : decode cL_law 1688 = .ok (.iconst 1, 1) := by decide +kernel
theorem dL_law_1689 : decode cL_law 1689 = .ok (.iadd, 1) := by decide +kernel
theorem dL_law_1690 : decode cL_law 1690 = .ok (.iaload, 1) := by decide +kernel
theorem dL_law_1691 : decode cL_law 1691 = .ok (.aload_n 3, 1) := by decide +kernel
theorem dL_law_1692 : decode cL_law 1692 = .ok (.invokestatic 217, 3) := by decide +kernel
theorem dL_law_1695 : decode cL_law 1695 = .ok (.istore 6, 2) := by decide +kernel
theorem dL_law_1697 : decode cL_law 1697 = .ok (.aload_n 2, 1) := by decide +kernel
theorem dL_law_1698 : decode cL_law 1698 = .ok (.aload_n 0, 1) := by decide +kernel
theorem dL_law_1699 : decode cL_law 1699 = .ok (.iload 5, 2) := by decide +kernel
theorem dL_law_1701 : decode cL_law 1701 = .ok (.iconst 1, 1) := by decide +kernel
theorem dL_law_1702 : decode cL_law 1702 = .ok (.iadd, 1) := by decide +kernel
theorem dL_law_1703 : decode cL_law 1703 = .ok (.iaload, 1) := by decide +kernel
theorem dL_law_1704 : decode cL_law 1704 = .ok (.invokevirtual 219, 3) := by decide +kernel
theorem dL_law_1707 : decode cL_law 1707 = .ok (.istore 7, 2) := by decide +kernel
theorem dL_law_1709 : decode cL_law 1709 = .ok (.aload_n 2, 1) := by decide +kernel
theorem dL_law_1710 : decode cL_law 1710 = .ok (.invokevirtual 142, 3) := by decide +kernel
theorem dL_law_1713 : decode cL_law 1713 = .ok (.iload 6, 2) := by decide +kernel
theorem dL_law_1715 : decode cL_law 1715 = .ok (.if_icmp .eq 5, 3) := by decide +kernel
theorem dL_law_1718 : decode cL_law 1718 = .ok (.iconst 0, 1) := by decide +kernel
theorem dL_law_1719 : decode cL_law 1719 = .ok (.ireturn, 1) := by decide +kernel
theorem dL_law_1720 : decode cL_law 1720 = .ok (.iload 6, 2) := by decide +kernel
theorem dL_law_1722 : decode cL_law 1722 = .ok (.ifCond .ne 15, 3) := by decide +kernel
theorem dL_law_1725 : decode cL_law 1725 = .ok (.aload_n 3, 1) := by decide +kernel
theorem dL_law_1726 : decode cL_law 1726 = .ok (.iconst 0, 1) := by decide +kernel
theorem dL_law_1727 : decode cL_law 1727 = .ok (.laload, 1) := by decide +kernel
theorem dL_law_1728 : decode cL_law 1728 = .ok (.iload 7, 2) := by decide +kernel
theorem dL_law_1730 : decode cL_law 1730 = .ok (.i2l, 1) := by decide +kernel
theorem dL_law_1731 : decode cL_law 1731 = .ok (.lcmp, 1) := by decide +kernel
theorem dL_law_1732 : decode cL_law 1732 = .ok (.ifCond .eq 5, 3) := by decide +kernel
theorem dL_law_1735 : decode cL_law 1735 = .ok (.iconst 0, 1) := by decide +kernel
theorem dL_law_1736 : decode cL_law 1736 = .ok (.ireturn, 1) := by decide +kernel
theorem dL_law_1737 : decode cL_law 1737 = .ok (.goto 522, 3) := by decide +kernel
theorem dL_law_1740 : decode cL_law 1740 = .ok (.aload_n 1, 1) := by decide +kernel
theorem dL_law_1741 : decode cL_law 1741 = .ok (.aload_n 0, 1) := by decide +kernel
theorem dL_law_1742 : decode cL_law 1742 = .ok (.iload 5, 2) := by decide +kernel
theorem dL_law_1744 : decode cL_law 1744 = .ok (.iconst 1, 1) := by decide +kernel
theorem dL_law_1745 : decode cL_law 1745 = .ok (.iadd, 1) := by decide +kernel
theorem dL_law_1746 : decode cL_law 1746 = .ok (.iaload, 1) := by decide +kernel
theorem dL_law_1747 : decode cL_law 1747 = .ok (.aload_n 3, 1) := by decide +kernel
theorem dL_law_1748 : decode cL_law 1748 = .ok (.invokestatic 220, 3) := by decide +kernel
theorem dL_law_1751 : decode cL_law 1751 = .ok (.istore 6, 2) := by decide +kernel
theorem dL_law_1753 : decode cL_law 1753 = .ok (.aload_n 2, 1) := by decide +kernel
theorem dL_law_1754 : decode cL_law 1754 = .ok (.aload_n 0, 1) := by decide +kernel
theorem dL_law_1755 : decode cL_law 1755 = .ok (.iload 5, 2) := by decide +kernel
theorem dL_law_1757 : decode cL_law 1757 = .ok (.iconst 1, 1) := by decide +kernel
theorem dL_law_1758 : decode cL_law 1758 = .ok (.iadd, 1) := by decide +kernel
theorem dL_law_1759 : decode cL_law 1759 = .ok (.iaload, 1) := by decide +kernel
theorem dL_law_1760 : decode cL_law 1760 = .ok (.invokevirtual 222, 3) := by decide +kernel
theorem dL_law_1763 : decode cL_law 1763 = .ok (.istore 7, 2) := by decide +kernel
theorem dL_law_1765 : decode cL_law 1765 = .ok (.aload_n 2, 1) := by decide +kernel
theorem dL_law_1766 : decode cL_law 1766 = .ok (.invokevirtual 142, 3) := by decide +kernel
theorem dL_law_1769 : decode cL_law 1769 = .ok (.iload 6, 2) := by decide +kernel
theorem dL_law_1771 : decode cL_law 1771 = .ok (.if_icmp .eq 5, 3) := by decide +kernel
theorem dL_law_1774 : decode cL_law 1774 = .ok (.iconst 0, 1) := by decide +kernel
theorem dL_law_1775 : decode cL_law 1775 = .ok (.ireturn, 1) := by decide +kernel
theorem dL_law_1776 : decode cL_law 1776 = .ok (.iload 6, 2) := by decide +kernel
theorem dL_law_1778 : decode cL_law 1778 = .ok (.ifCond .ne 15, 3) := by decide +kernel
theorem dL_law_1781 : decode cL_law 1781 = .ok (.aload_n 3, 1) := by decide +kernel
theorem dL_law_1782 : decode cL_law 1782 = .ok (.iconst 0, 1) := by decide +kernel
theorem dL_law_1783 : decode cL_law 1783 = .ok (.laload, 1) := by decide +kernel
theorem dL_law_1784 : decode cL_law 1784 = .ok (.iload 7, 2) := by decide +kernel
theorem dL_law_1786 : decode cL_law 1786 = .ok (.i2l, 1) := by decide +kernel
theorem dL_law_1787 : decode cL_law 1787 = .ok (.lcmp, 1) := by decide +kernel
theorem dL_law_1788 : decode cL_law 1788 = .ok (.ifCond .eq 5, 3) := by decide +kernel
theorem dL_law_1791 : decode cL_law 1791 = .ok (.iconst 0, 1) := by decide +kernel
theorem dL_law_1792 : decode cL_law 1792 = .ok (.ireturn, 1) := by decide +kernel
theorem dL_law_1793 : decode cL_law 1793 = .ok (.goto 466, 3) := by decide +kernel
theorem dL_law_1796 : decode cL_law 1796 = .ok (.aload_n 1, 1) := by decide +kernel
theorem dL_law_1797 : decode cL_law 1797 = .ok (.invokevirtual 223, 3) := by decide +kernel
theorem dL_law_1800 : decode cL_law 1800 = .ok (.aload_n 2, 1) := by decide +kernel
theorem dL_law_1801 : decode cL_law 1801 = .ok (.invokevirtual 226, 3) := by decide +kernel
theorem dL_law_1804 : decode cL_law 1804 = .ok (.if_icmp .eq 455, 3) := by decide +kernel
theorem dL_law_1807 : decode cL_law 1807 = .ok (.iconst 0, 1) := by decide +kernel
theorem dL_law_1808 : decode cL_law 1808 = .ok (.ireturn, 1) := by decide +kernel
theorem dL_law_1809 : decode cL_law 1809 = .ok (.aload_n 1, 1) := by decide +kernel
theorem dL_law_1810 : decode cL_law 1810 = .ok (.aload 4, 2) := by decide +kernel
theorem dL_law_1812 : decode cL_law 1812 = .ok (.invokestatic 227, 3) := by decide +kernel
theorem dL_law_1815 : decode cL_law 1815 = .ok (.istore 6, 2) := by decide +kernel
theorem dL_law_1817 : decode cL_law 1817 = .ok (.aload_n 2, 1) := by decide +kernel
theorem dL_law_1818 : decode cL_law 1818 = .ok (.invokevirtual 230, 3) := by decide +kernel
theorem dL_law_1821 : decode cL_law 1821 = .ok (.dstore 7, 2) := by decide +kernel
theorem dL_law_1823 : decode cL_law 1823 = .ok (.aload_n 2, 1) := by decide +kernel
theorem dL_law_1824 : decode cL_law 1824 = .ok (.invokevirtual 142, 3) := by decide +kernel
theorem dL_law_1827 : decode cL_law 1827 = .ok (.iload 6, 2) := by decide +kernel
theorem dL_law_1829 : decode cL_law 1829 = .ok (.if_icmp .eq 5, 3) := by decide +kernel
theorem dL_law_1832 : decode cL_law 1832 = .ok (.iconst 0, 1) := by decide +kernel
theorem dL_law_1833 : decode cL_law 1833 = .ok (.ireturn, 1) := by decide +kernel
theorem dL_law_1834 : decode cL_law 1834 = .ok (.iload 6, 2) := by decide +kernel
theorem dL_law_1836 : decode cL_law 1836 = .ok (.ifCond .ne 35, 3) := by decide +kernel
theorem dL_law_1839 : decode cL_law 1839 = .ok (.aload 4, 2) := by decide +kernel
theorem dL_law_1841 : decode cL_law 1841 = .ok (.iconst 0, 1) := by decide +kernel
theorem dL_law_1842 : decode cL_law 1842 = .ok (.daload, 1) := by decide +kernel
theorem dL_law_1843 : decode cL_law 1843 = .ok (.dload 7, 2) := by decide +kernel
theorem dL_law_1845 : decode cL_law 1845 = .ok (.dcmp .l, 1) := by decide +kernel
theorem dL_law_1846 : decode cL_law 1846 = .ok (.ifCond .eq 25, 3) := by decide +kernel
theorem dL_law_1849 : decode cL_law 1849 = .ok (.aload 4, 2) := by decide +kernel
theorem dL_law_1851 : decode cL_law 1851 = .ok (.iconst 0, 1) := by decide +kernel
theorem dL_law_1852 : decode cL_law 1852 = .ok (.daload, 1) := by decide +kernel
theorem dL_law_1853 : decode cL_law 1853 = .ok (.aload 4, 2) := by decide +kernel
theorem dL_law_1855 : decode cL_law 1855 = .ok (.iconst 0, 1) := by decide +kernel
theorem dL_law_1856 : decode cL_law 1856 = .ok (.daload, 1) := by decide +kernel
theorem dL_law_1857 : decode cL_law 1857 = .ok (.dcmp .l, 1) := by decide +kernel
theorem dL_law_1858 : decode cL_law 1858 = .ok (.ifCond .eq 11, 3) := by decide +kernel
theorem dL_law_1861 : decode cL_law 1861 = .ok (.dload 7, 2) := by decide +kernel
theorem dL_law_1863 : decode cL_law 1863 = .ok (.dload 7, 2) := by decide +kernel
theorem dL_law_1865 : decode cL_law 1865 = .ok (.dcmp .l, 1) := by decide +kernel
theorem dL_law_1866 : decode cL_law 1866 = .ok (.ifCond .ne 5, 3) := by decide +kernel
theorem dL_law_1869 : decode cL_law 1869 = .ok (.iconst 0, 1) := by decide +kernel
theorem dL_law_1870 : decode cL_law 1870 = .ok (.ireturn, 1) := by decide +kernel
theorem dL_law_1871 : decode cL_law 1871 = .ok (.goto 388, 3) := by decide +kernel
theorem dL_law_1874 : decode cL_law 1874 = .ok (.aload_n 1, 1) := by decide +kernel
theorem dL_law_1875 : decode cL_law 1875 = .ok (.aload 4, 2) := by decide +kernel
theorem dL_law_1877 : decode cL_law 1877 = .ok (.invokestatic 231, 3) := by decide +kernel
theorem dL_law_1880 : decode cL_law 1880 = .ok (.istore 6, 2) := by decide +kernel
theorem dL_law_1882 : decode cL_law 1882 = .ok (.aload_n 2, 1) := by decide +kernel
theorem dL_law_1883 : decode cL_law 1883 = .ok (.invokevirtual 233, 3) := by decide +kernel
theorem dL_law_1886 : decode cL_law 1886 = .ok (.fstore 7, 2) := by decide +kernel
theorem dL_law_1888 : decode cL_law 1888 = .ok (.aload_n 2, 1) := by decide +kernel
theorem dL_law_1889 : decode cL_law 1889 = .ok (.invokevirtual 142, 3) := by decide +kernel
theorem dL_law_1892 : decode cL_law 1892 = .ok (.iload 6, 2) := by decide +kernel
theorem dL_law_1894 : decode cL_law 1894 = .ok (.if_icmp .eq 5, 3) := by decide +kernel
theorem dL_law_1897 : decode cL_law 1897 = .ok (.iconst 0, 1) := by decide +kernel
theorem dL_law_1898 : decode cL_law 1898 = .ok (.ireturn, 1) := by decide +kernel
theorem dL_law_1899 : decode cL_law 1899 = .ok (.iload 6, 2) := by decide +kernel
theorem dL_law_1901 : decode cL_law 1901 = .ok (.ifCond .ne 36, 3) := by decide +kernel
theorem dL_law_1904 : decode cL_law 1904 = .ok (.aload 4, 2) := by decide +kernel
theorem dL_law_1906 : decode cL_law 1906 = .ok (.iconst 0, 1) := by decide +kernel
theorem dL_law_1907 : decode cL_law 1907 = .ok (.daload, 1) := by decide +kernel
theorem dL_law_1908 : decode cL_law 1908 = .ok (.fload 7, 2) := by decide +kernel
theorem dL_law_1910 : decode cL_law 1910 = .ok (.f2d, 1) := by decide +kernel
theorem dL_law_1911 : decode cL_law 1911 = .ok (.dcmp .l, 1) := by decide +kernel
theorem dL_law_1912 : decode cL_law 1912 = .ok (.ifCond .eq 25, 3) := by decide +kernel
theorem dL_law_1915 : decode cL_law 1915 = .ok (.aload 4, 2) := by decide +kernel
theorem dL_law_1917 : decode cL_law 1917 = .ok (.iconst 0, 1) := by decide +kernel
theorem dL_law_1918 : decode cL_law 1918 = .ok (.daload, 1) := by decide +kernel
theorem dL_law_1919 : decode cL_law 1919 = .ok (.aload 4, 2) := by decide +kernel
theorem dL_law_1921 : decode cL_law 1921 = .ok (.iconst 0, 1) := by decide +kernel
theorem dL_law_1922 : decode cL_law 1922 = .ok (.daload, 1) := by decide +kernel
theorem dL_law_1923 : decode cL_law 1923 = .ok (.dcmp .l, 1) := by decide +kernel
theorem dL_law_1924 : decode cL_law 1924 = .ok (.ifCond .eq 11, 3) := by decide +kernel
theorem dL_law_1927 : decode cL_law 1927 = .ok (.fload 7, 2) := by decide +kernel
theorem dL_law_1929 : decode cL_law 1929 = .ok (.fload 7, 2) := by decide +kernel
theorem dL_law_1931 : decode cL_law 1931 = .ok (.fcmp .l, 1) := by decide +kernel
theorem dL_law_1932 : decode cL_law 1932 = .ok (.ifCond .ne 5, 3) := by decide +kernel
theorem dL_law_1935 : decode cL_law 1935 = .ok (.iconst 0, 1) := by decide +kernel
theorem dL_law_1936 : decode cL_law 1936 = .ok (.ireturn, 1) := by decide +kernel
theorem dL_law_1937 : decode cL_law 1937 = .ok (.goto 322, 3) := by decide +kernel
theorem dL_law_1940 : decode cL_law 1940 = .ok (.aload_n 1, 1) := by decide +kernel
theorem dL_law_1941 : decode cL_law 1941 = .ok (.aload_n 0, 1) := by decide +kernel
theorem dL_law_1942 : decode cL_law 1942 = .ok (.iload 5, 2) := by decide +kernel
theorem dL_law_1944 : decode cL_law 1944 = .ok (.iconst 1, 1) := by decide +kernel
theorem dL_law_1945 : decode cL_law 1945 = .ok (.iadd, 1) := by decide +kernel
theorem dL_law_1946 : decode cL_law 1946 = .ok (.iaload, 1) := by decide +kernel
theorem dL_law_1947 : decode cL_law 1947 = .ok (.i2c, 1) := by decide +kernel
theorem dL_law_1948 : decode cL_law 1948 = .ok (.aload_n 3, 1) := by decide +kernel
theorem dL_law_1949 : decode cL_law 1949 = .ok (.invokestatic 234, 3) := by decide +kernel
theorem dL_law_1952 : decode cL_law 1952 = .ok (.istore 6, 2) := by decide +kernel
theorem dL_law_1954 : decode cL_law 1954 = .ok (.aload_n 2, 1) := by decide +kernel
theorem dL_law_1955 : decode cL_law 1955 = .ok (.aload_n 0, 1) := by decide +kernel
theorem dL_law_1956 : decode cL_law 1956 = .ok (.iload 5, 2) := by decide +kernel
theorem dL_law_1958 : decode cL_law 1958 = .ok (.iconst 1, 1) := by decide +kernel
theorem dL_law_1959 : decode cL_law 1959 = .ok (.iadd, 1) := by decide +kernel
theorem dL_law_1960 : decode cL_law 1960 = .ok (.iaload, 1) := by decide +kernel
theorem dL_law_1961 : decode cL_law 1961 = .ok (.i2c, 1) := by decide +kernel
theorem dL_law_1962 : decode cL_law 1962 = .ok (.invokevirtual 237, 3) := by decide +kernel
theorem dL_law_1965 : decode cL_law 1965 = .ok (.istore 7, 2) := by decide +kernel
theorem dL_law_1967 : decode cL_law 1967 = .ok (.aload_n 2, 1) := by decide +kernel
theorem dL_law_1968 : decode cL_law 1968 = .ok (.invokevirtual 142, 3) := by decide +kernel
theorem dL_law_1971 : decode cL_law 1971 = .ok (.iload 6, 2) := by decide +kernel
theorem dL_law_1973 : decode cL_law 1973 = .ok (.if_icmp .eq 5, 3) := by decide +kernel
theorem dL_law_1976 : decode cL_law 1976 = .ok (.iconst 0, 1) := by decide +kernel
theorem dL_law_1977 : decode cL_law 1977 = .ok (.ireturn, 1) := by decide +kernel
theorem dL_law_1978 : decode cL_law 1978 = .ok (.iload 6, 2) := by decide +kernel
theorem dL_law_1980 : decode cL_law 1980 = .ok (.ifCond .ne 15, 3) := by decide +kernel
theorem dL_law_1983 : decode cL_law 1983 = .ok (.aload_n 3, 1) := by decide +kernel
theorem dL_law_1984 : decode cL_law 1984 = .ok (.iconst 0, 1) := by decide +kernel
theorem dL_law_1985 : decode cL_law 1985 = .ok (.laload, 1) := by decide +kernel
theorem dL_law_1986 : decode cL_law 1986 = .ok (.iload 7, 2) := by decide +kernel
theorem dL_law_1988 : decode cL_law 1988 = .ok (.i2l, 1) := by decide +kernel
theorem dL_law_1989 : decode cL_law 1989 = .ok (.lcmp, 1) := by decide +kernel
theorem dL_law_1990 : decode cL_law 1990 = .ok (.ifCond .eq 5, 3) := by decide +kernel
theorem dL_law_1993 : decode cL_law 1993 = .ok (.iconst 0, 1) := by decide +kernel
theorem dL_law_1994 : decode cL_law 1994 = .ok (.ireturn, 1) := by decide +kernel
theorem dL_law_1995 : decode cL_law 1995 = .ok (.goto 264, 3) := by decide +kernel
theorem dL_law_1998 : decode cL_law 1998 = .ok (.aload_n 1, 1) := by decide +kernel
theorem dL_law_1999 : decode cL_law 1999 = .ok (.aload_n 3, 1) := by decide +kernel
theorem dL_law_2000 : decode cL_law 2000 = .ok (.invokestatic 238, 3) := by decide +kernel
theorem dL_law_2003 : decode cL_law 2003 = .ok (.istore 6, 2) := by decide +kernel
theorem dL_law_2005 : decode cL_law 2005 = .ok (.aload_n 2, 1) := by decide +kernel
theorem dL_law_2006 : decode cL_law 2006 = .ok (.invokevirtual 240, 3) := by decide +kernel
theorem dL_law_2009 : decode cL_law 2009 = .ok (.istore 7, 2) := by decide +kernel
theorem dL_law_2011 : decode cL_law 2011 = .ok (.aload_n 2, 1) := by decide +kernel
theorem dL_law_2012 : decode cL_law 2012 = .ok (.invokevirtual 142, 3) := by decide +kernel
theorem dL_law_2015 : decode cL_law 2015 = .ok (.iload 6, 2) := by decide +kernel
theorem dL_law_2017 : decode cL_law 2017 = .ok (.if_icmp .eq 5, 3) := by decide +kernel
theorem dL_law_2020 : decode cL_law 2020 = .ok (.iconst 0, 1) := by decide +kernel
theorem dL_law_2021 : decode cL_law 2021 = .ok (.ireturn, 1) := by decide +kernel
theorem dL_law_2022 : decode cL_law 2022 = .ok (.iload 6, 2) := by decide +kernel
theorem dL_law_2024 : decode cL_law 2024 = .ok (.ifCond .ne 15, 3) := by decide +kernel
theorem dL_law_2027 : decode cL_law 2027 = .ok (.aload_n 3, 1) := by decide +kernel
theorem dL_law_2028 : decode cL_law 2028 = .ok (.iconst 0, 1) := by decide +kernel
theorem dL_law_2029 : decode cL_law 2029 = .ok (.laload, 1) := by decide +kernel
theorem dL_law_2030 : decode cL_law 2030 = .ok (.iload 7, 2) := by decide +kernel
theorem dL_law_2032 : decode cL_law 2032 = .ok (.i2l, 1) := by decide +kernel
theorem dL_law_2033 : decode cL_law 2033 = .ok (.lcmp, 1) := by decide +kernel
theorem dL_law_2034 : decode cL_law 2034 = .ok (.ifCond .eq 5, 3) := by decide +kernel
theorem dL_law_2037 : decode cL_law 2037 = .ok (.iconst 0, 1) := by decide +kernel
theorem dL_law_2038 : decode cL_law 2038 = .ok (.ireturn, 1) := by decide +kernel
theorem dL_law_2039 : decode cL_law 2039 = .ok (.goto 220, 3) := by decide +kernel
theorem dL_law_2042 : decode cL_law 2042 = .ok (.aload_n 1, 1) := by decide +kernel
theorem dL_law_2043 : decode cL_law 2043 = .ok (.aload_n 3, 1) := by decide +kernel
theorem dL_law_2044 : decode cL_law 2044 = .ok (.invokestatic 241, 3) := by decide +kernel
theorem dL_law_2047 : decode cL_law 2047 = .ok (.istore 6, 2) := by decide +kernel
theorem dL_law_2049 : decode cL_law 2049 = .ok (.aload_n 2, 1) := by decide +kernel
theorem dL_law_2050 : decode cL_law 2050 = .ok (.invokevirtual 243, 3) := by decide +kernel
theorem dL_law_2053 : decode cL_law 2053 = .ok (.istore 7, 2) := by decide +kernel
theorem dL_law_2055 : decode cL_law 2055 = .ok (.aload_n 2, 1) := by decide +kernel
theorem dL_law_2056 : decode cL_law 2056 = .ok (.invokevirtual 142, 3) := by decide +kernel
theorem dL_law_2059 : decode cL_law 2059 = .ok (.iload 6, 2) := by decide +kernel
theorem dL_law_2061 : decode cL_law 2061 = .ok (.if_icmp .eq 5, 3) := by decide +kernel
theorem dL_law_2064 : decode cL_law 2064 = .ok (.iconst 0, 1) := by decide +kernel
theorem dL_law_2065 : decode cL_law 2065 = .ok (.ireturn, 1) := by decide +kernel
theorem dL_law_2066 : decode cL_law 2066 = .ok (.iload 6, 2) := by decide +kernel
theorem dL_law_2068 : decode cL_law 2068 = .ok (.ifCond .ne 15, 3) := by decide +kernel
theorem dL_law_2071 : decode cL_law 2071 = .ok (.aload_n 3, 1) := by decide +kernel
theorem dL_law_2072 : decode cL_law 2072 = .ok (.iconst 0, 1) := by decide +kernel
theorem dL_law_2073 : decode cL_law 2073 = .ok (.laload, 1) := by decide +kernel
theorem dL_law_2074 : decode cL_law 2074 = .ok (.iload 7, 2) := by decide +kernel
theorem dL_law_2076 : decode cL_law 2076 = .ok (.i2l, 1) := by decide +kernel
theorem dL_law_2077 : decode cL_law 2077 = .ok (.lcmp, 1) := by decide +kernel
theorem dL_law_2078 : decode cL_law 2078 = .ok (.ifCond .eq 5, 3) := by decide +kernel
theorem dL_law_2081 : decode cL_law 2081 = .ok (.iconst 0, 1) := by decide +kernel
theorem dL_law_2082 : decode cL_law 2082 = .ok (.ireturn, 1) := by decide +kernel
theorem dL_law_2083 : decode cL_law 2083 = .ok (.goto 176, 3) := by decide +kernel
theorem dL_law_2086 : decode cL_law 2086 = .ok (.aload_n 1, 1) := by decide +kernel
theorem dL_law_2087 : decode cL_law 2087 = .ok (.aload_n 0, 1) := by decide +kernel
theorem dL_law_2088 : decode cL_law 2088 = .ok (.iload 5, 2) := by decide +kernel
theorem dL_law_2090 : decode cL_law 2090 = .ok (.iconst 1, 1) := by decide +kernel
theorem dL_law_2091 : decode cL_law 2091 = .ok (.iadd, 1) := by decide +kernel
theorem dL_law_2092 : decode cL_law 2092 = .ok (.iaload, 1) := by decide +kernel
theorem dL_law_2093 : decode cL_law 2093 = .ok (.ifCond .eq 7, 3) := by decide +kernel
theorem dL_law_2096 : decode cL_law 2096 = .ok (.iconst 1, 1) := by decide +kernel
theorem dL_law_2097 : decode cL_law 2097 = .ok (.goto 4, 3) := by decide +kernel
theorem dL_law_2100 : decode cL_law 2100 = .ok (.iconst 0, 1) := by decide +kernel
theorem dL_law_2101 : decode cL_law 2101 = .ok (.aload_n 3, 1) := by decide +kernel
theorem dL_law_2102 : decode cL_law 2102 = .ok (.invokestatic 244, 3) := by decide +kernel
theorem dL_law_2105 : decode cL_law 2105 = .ok (.istore 6, 2) := by decide +kernel
theorem dL_law_2107 : decode cL_law 2107 = .ok (.aload_n 2, 1) := by decide +kernel
theorem dL_law_2108 : decode cL_law 2108 = .ok (.aload_n 0, 1) := by decide +kernel
theorem dL_law_2109 : decode cL_law 2109 = .ok (.iload 5, 2) := by decide +kernel
theorem dL_law_2111 : decode cL_law 2111 = .ok (.iconst 1, 1) := by decide +kernel
theorem dL_law_2112 : decode cL_law 2112 = .ok (.iadd, 1) := by decide +kernel
theorem dL_law_2113 : decode cL_law 2113 = .ok (.iaload, 1) := by decide +kernel
theorem dL_law_2114 : decode cL_law 2114 = .ok (.ifCond .eq 7, 3) := by decide +kernel
theorem dL_law_2117 : decode cL_law 2117 = .ok (.iconst 1, 1) := by decide +kernel
theorem dL_law_2118 : decode cL_law 2118 = .ok (.goto 4, 3) := by decide +kernel
theorem dL_law_2121 : decode cL_law 2121 = .ok (.iconst 0, 1) := by decide +kernel
theorem dL_law_2122 : decode cL_law 2122 = .ok (.invokevirtual 247, 3) := by decide +kernel
theorem dL_law_2125 : decode cL_law 2125 = .ok (.istore 7, 2) := by decide +kernel
theorem dL_law_2127 : decode cL_law 2127 = .ok (.aload_n 2, 1) := by decide +kernel
theorem dL_law_2128 : decode cL_law 2128 = .ok (.invokevirtual 142, 3) := by decide +kernel
theorem dL_law_2131 : decode cL_law 2131 = .ok (.iload 6, 2) := by decide +kernel
theorem dL_law_2133 : decode cL_law 2133 = .ok (.if_icmp .eq 5, 3) := by decide +kernel
theorem dL_law_2136 : decode cL_law 2136 = .ok (.iconst 0, 1) := by decide +kernel
theorem dL_law_2137 : decode cL_law 2137 = .ok (.ireturn, 1) := by decide +kernel
theorem dL_law_2138 : decode cL_law 2138 = .ok (.iload 6, 2) := by decide +kernel
theorem dL_law_2140 : decode cL_law 2140 = .ok (.ifCond .ne 15, 3) := by decide +kernel
theorem dL_law_2143 : decode cL_law 2143 = .ok (.aload_n 3, 1) := by decide +kernel
theorem dL_law_2144 : decode cL_law 2144 = .ok (.iconst 0, 1) := by decide +kernel
theorem dL_law_2145 : decode cL_law 2145 = .ok (.laload, 1) := by decide +kernel
theorem dL_law_2146 : decode cL_law 2146 = .ok (.iload 7, 2) := by decide +kernel
theorem dL_law_2148 : decode cL_law 2148 = .ok (.i2l, 1) := by decide +kernel
theorem dL_law_2149 : decode cL_law 2149 = .ok (.lcmp, 1) := by decide +kernel
theorem dL_law_2150 : decode cL_law 2150 = .ok (.ifCond .eq 5, 3) := by decide +kernel
theorem dL_law_2153 : decode cL_law 2153 = .ok (.iconst 0, 1) := by decide +kernel
theorem dL_law_2154 : decode cL_law 2154 = .ok (.ireturn, 1) := by decide +kernel
theorem dL_law_2155 : decode cL_law 2155 = .ok (.goto 104, 3) := by decide +kernel
theorem dL_law_2158 : decode cL_law 2158 = .ok (.aload_n 1, 1) := by decide +kernel
theorem dL_law_2159 : decode cL_law 2159 = .ok (.aload_n 3, 1) := by decide +kernel
theorem dL_law_2160 : decode cL_law 2160 = .ok (.invokestatic 248, 3) := by decide +kernel
theorem dL_law_2163 : decode cL_law 2163 = .ok (.istore 6, 2) := by decide +kernel
theorem dL_law_2165 : decode cL_law 2165 = .ok (.aload_n 2, 1) := by decide +kernel
theorem dL_law_2166 : decode cL_law 2166 = .ok (.invokevirtual 250, 3) := by decide +kernel
theorem dL_law_2169 : decode cL_law 2169 = .ok (.istore 7, 2) := by decide +kernel
theorem dL_law_2171 : decode cL_law 2171 = .ok (.aload_n 2, 1) := by decide +kernel
theorem dL_law_2172 : decode cL_law 2172 = .ok (.invokevirtual 142, 3) := by decide +kernel
theorem dL_law_2175 : decode cL_law 2175 = .ok (.iload 6, 2) := by decide +kernel
theorem dL_law_2177 : decode cL_law 2177 = .ok (.if_icmp .eq 5, 3) := by decide +kernel
theorem dL_law_2180 : decode cL_law 2180 = .ok (.iconst 0, 1) := by decide +kernel
theorem dL_law_2181 : decode cL_law 2181 = .ok (.ireturn, 1) := by decide +kernel
theorem dL_law_2182 : decode cL_law 2182 = .ok (.iload 6, 2) := by decide +kernel
theorem dL_law_2184 : decode cL_law 2184 = .ok (.ifCond .ne 15, 3) := by decide +kernel
theorem dL_law_2187 : decode cL_law 2187 = .ok (.aload_n 3, 1) := by decide +kernel
theorem dL_law_2188 : decode cL_law 2188 = .ok (.iconst 0, 1) := by decide +kernel
theorem dL_law_2189 : decode cL_law 2189 = .ok (.laload, 1) := by decide +kernel
theorem dL_law_2190 : decode cL_law 2190 = .ok (.iload 7, 2) := by decide +kernel
theorem dL_law_2192 : decode cL_law 2192 = .ok (.i2l, 1) := by decide +kernel
theorem dL_law_2193 : decode cL_law 2193 = .ok (.lcmp, 1) := by decide +kernel
theorem dL_law_2194 : decode cL_law 2194 = .ok (.ifCond .eq 5, 3) := by decide +kernel
theorem dL_law_2197 : decode cL_law 2197 = .ok (.iconst 0, 1) := by decide +kernel
theorem dL_law_2198 : decode cL_law 2198 = .ok (.ireturn, 1) := by decide +kernel
theorem dL_law_2199 : decode cL_law 2199 = .ok (.goto 60, 3) := by decide +kernel
theorem dL_law_2202 : decode cL_law 2202 = .ok (.aload_n 1, 1) := by decide +kernel
theorem dL_law_2203 : decode cL_law 2203 = .ok (.invokevirtual 251, 3) := by decide +kernel
theorem dL_law_2206 : decode cL_law 2206 = .ok (.aload_n 2, 1) := by decide +kernel
theorem dL_law_2207 : decode cL_law 2207 = .ok (.invokevirtual 254, 3) := by decide +kernel
theorem dL_law_2210 : decode cL_law 2210 = .ok (.if_icmp .eq 49, 3) := by decide +kernel
theorem dL_law_2213 : decode cL_law 2213 = .ok (.iconst 0, 1) := by decide +kernel
theorem dL_law_2214 : decode cL_law 2214 = .ok (.ireturn, 1) := by decide +kernel
theorem dL_law_2215 : decode cL_law 2215 = .ok (.aload_n 1, 1) := by decide +kernel
theorem dL_law_2216 : decode cL_law 2216 = .ok (.aload_n 3, 1) := by decide +kernel
theorem dL_law_2217 : decode cL_law 2217 = .ok (.invokestatic 255, 3) := by decide +kernel
theorem dL_law_2220 : decode cL_law 2220 = .ok (.istore 6, 2) := by decide +kernel
theorem dL_law_2222 : decode cL_law 2222 = .ok (.aload_n 2, 1) := by decide +kernel
theorem dL_law_2223 : decode cL_law 2223 = .ok (.invokevirtual 257, 3) := by decide +kernel
theorem dL_law_2226 : decode cL_law 2226 = .ok (.istore 7, 2) := by decide +kernel
theorem dL_law_2228 : decode cL_law 2228 = .ok (.aload_n 2, 1) := by decide +kernel
theorem dL_law_2229 : decode cL_law 2229 = .ok (.invokevirtual 142, 3) := by decide +kernel
theorem dL_law_2232 : decode cL_law 2232 = .ok (.iload 6, 2) := by decide +kernel
theorem dL_law_2234 : decode cL_law 2234 = .ok (.if_icmp .eq 5, 3) := by decide +kernel
theorem dL_law_2237 : decode cL_law 2237 = .ok (.iconst 0, 1) := by decide +kernel
theorem dL_law_2238 : decode cL_law 2238 = .ok (.ireturn, 1) := by decide +kernel
theorem dL_law_2239 : decode cL_law 2239 = .ok (.iload 6, 2) := by decide +kernel
theorem dL_law_2241 : decode cL_law 2241 = .ok (.ifCond .ne 15, 3) := by decide +kernel
theorem dL_law_2244 : decode cL_law 2244 = .ok (.aload_n 3, 1) := by decide +kernel
theorem dL_law_2245 : decode cL_law 2245 = .ok (.iconst 0, 1) := by decide +kernel
theorem dL_law_2246 : decode cL_law 2246 = .ok (.laload, 1) := by decide +kernel
theorem dL_law_2247 : decode cL_law 2247 = .ok (.iload 7, 2) := by decide +kernel
theorem dL_law_2249 : decode cL_law 2249 = .ok (.i2l, 1) := by decide +kernel
theorem dL_law_2250 : decode cL_law 2250 = .ok (.lcmp, 1) := by decide +kernel
theorem dL_law_2251 : decode cL_law 2251 = .ok (.ifCond .eq 5, 3) := by decide +kernel
theorem dL_law_2254 : decode cL_law 2254 = .ok (.iconst 0, 1) := by decide +kernel
theorem dL_law_2255 : decode cL_law 2255 = .ok (.ireturn, 1) := by decide +kernel
theorem dL_law_2256 : decode cL_law 2256 = .ok (.goto 3, 3) := by decide +kernel
theorem dL_law_2259 : decode cL_law 2259 = .ok (.iinc 5 3, 3) := by decide +kernel
theorem dL_law_2262 : decode cL_law 2262 = .ok (.goto (-2234), 3) := by decide +kernel
theorem dL_law_2265 : decode cL_law 2265 = .ok (.iconst 1, 1) := by decide +kernel
theorem dL_law_2266 : decode cL_law 2266 = .ok (.ireturn, 1) := by decide +kernel
end
section
/-! ===== 02.core: worlds as functions from addresses; one judgement WF a method, a rule an instruction ===== -/
/-- the words that every method is given: what the tables say, where it stays true -/
def xAll : List Cond := lw_tbl.filter goodWord
theorem xin {w : Cond} (h : w ∈ lw_tbl) (g : goodWord w = true) : w ∈ xAll := List.mem_filter.mpr ⟨h, g⟩
theorem xin0 {w : Cond} (h : w ∈ k2_sels lw_privs) (g : goodWord w = true) : w ∈ xAll := xin (List.mem_append_left _ h) g
theorem xinT {w : Cond} (h : w ∈ tables_1) (g : goodWord w = true) : w ∈ xAll := xin (List.mem_append_right _ h) g
theorem xin1 {w : Cond} (h : w ∈ tables_1_1) (g : goodWord w = true) : w ∈ xAll := xinT (List.mem_append_left _ h) g
theorem xin2 {w : Cond} (h : w ∈ tables_1_2) (g : goodWord w = true) : w ∈ xAll := xinT (List.mem_append_right _ (List.mem_append_left _ h)) g
theorem xin3 {w : Cond} (h : w ∈ tables_1_3) (g : goodWord w = true) : w ∈ xAll := xinT (List.mem_append_right _ (List.mem_append_right _ (List.mem_append_left _ h))) g
theorem xin4 {w : Cond} (h : w ∈ tables_1_4) (g : goodWord w = true) : w ∈ xAll := xinT (List.mem_append_right _ (List.mem_append_right _ (List.mem_append_right _ (List.mem_append_left _ h)))) g
theorem xin5 {w : Cond} (h : w ∈ tables_1_5) (g : goodWord w = true) : w ∈ xAll := xinT (List.mem_append_right _ (List.mem_append_right _ (List.mem_append_right _ (List.mem_append_right _ (List.mem_append_left _ h))))) g
theorem xin6 {w : Cond} (h : w ∈ tables_1_6) (g : goodWord w = true) : w ∈ xAll := xinT (List.mem_append_right _ (List.mem_append_right _ (List.mem_append_right _ (List.mem_append_right _ (List.mem_append_right _ (List.mem_append_left _ h)))))) g
theorem xin7 {w : Cond} (h : w ∈ tables_1_7) (g : goodWord w = true) : w ∈ xAll := xinT (List.mem_append_right _ (List.mem_append_right _ (List.mem_append_right _ (List.mem_append_right _ (List.mem_append_right _ (List.mem_append_right _ (List.mem_append_left _ h))))))) g
theorem xin8 {w : Cond} (h : w ∈ tables_1_8) (g : goodWord w = true) : w ∈ xAll := xinT (List.mem_append_right _ (List.mem_append_right _ (List.mem_append_right _ (List.mem_append_right _ (List.mem_append_right _ (List.mem_append_right _ (List.mem_append_right _ h))))))) g
theorem xgood {w : Cond} (h : w ∈ xAll) : goodWord w = true := (List.mem_filter.mp h).2
theorem xGood {a b : Cond} (h : b ∈ xAll) : GoodIn (a :: xAll) (b :: xAll) := fun w hw => (List.mem_cons.mp hw).elim (fun e => by subst e; exact ⟨List.mem_cons_of_mem _ h, good_of_word (xgood h)⟩) (fun hm => ⟨List.mem_cons_of_mem _ hm, good_of_word (xgood hm)⟩)
theorem xGoodL {a : Cond} {l : List Cond} (h : ∀ w ∈ l, w ∈ xAll) : GoodIn (a :: xAll) l := fun w hw => ⟨List.mem_cons_of_mem _ (h w hw), good_of_word (xgood (h w hw))⟩
theorem xGV {own C : String} {idx : Nat} {y : MethodName} {a b : Cond} (h1 : Cond.methodLink own idx y ∈ xAll) (h2 : Cond.instanceMethod y ∈ xAll) (h3 : Cond.selects C y y ∈ xAll) (h4 : Cond.initialized C ∈ xAll) (h5 : b ∈ xAll) : GoodIn (a :: xAll) (wsV own idx C y (b :: xAll)) :=
  goodIn_app (xGoodL (fun w hw => by
    simp only [List.mem_cons, List.not_mem_nil, or_false] at hw
    rcases hw with rfl | rfl | rfl | rfl <;> assumption)) (xGood h5)
theorem xGS {own : String} {idx : Nat} {y : MethodName} {a b : Cond} (h1 : Cond.methodLink own idx y ∈ xAll) (h2 : Cond.static y ∈ xAll) (h4 : Cond.initialized y.cls ∈ xAll) (h5 : b ∈ xAll) : GoodIn (a :: xAll) (va_wsS own idx y (b :: xAll)) :=
  goodIn_app (xGoodL (fun w hw => by
    simp only [List.mem_cons, List.not_mem_nil, or_false] at hw
    rcases hw with rfl | rfl | rfl <;> assumption)) (xGood h5)
/-- the String constants of our classes: class, place, text; their lengths and signs -/
def xStr : List (String × Nat × String) := [("TubHire", 230, "no such number"), ("TubHire", 320, "out of range"), ("TubHire", 322, "refused"), ("TubHire", 68, "no such tub"), ("TubHire", 75, "a tub has no such number"), ("TubHire", 87, "no such tub or seam"), ("TubHire", 94, "no torn seam from there on"), ("TubHire", 108, "no tub in the store holds its water"), ("TubHire", 123, "no such tent"), ("TubHire", 125, "a tent has no such number"), ("TubHire", 133, "nobody waits at this place"), ("TubHire", 145, "no such heater"), ("TubHire", 327, "no such size or warmth"), ("TubHire", 189, "no such guest bathes soon"), ("TubHire", 329, " no tub"), ("TubHire", 334, " dirty"), ("TubHire", 211, " h"), ("TubHire", 219, " +"), ("TubHire", 224, "no such character"), ("TubHire", 261, "no tub has water"), ("TubHire", 264, "nobody came"), ("TubHire", 272, "the input is full"), ("TubHire", 278, "the input is no text"), ("TubHire", 288, "a command is refused"), ("TubHire", 294, "no fault position was kept"), ("TubHire", 305, "nothing was refused"), ("TubHire", 310, "nothing can be undone"), ("TubHire", 318, "there is no snapshot"), ("TubHireModel", 31, "out "), ("TubHireModel", 33, "back "), ("TubHireModel", 35, "heat "), ("TubHireModel", 37, "cold "), ("TubHireModel", 39, "join "), ("TubHireModel", 41, "mend "), ("TubHireModel", 43, "wash "), ("TubHireModel", 45, "soap "), ("TubHireModel", 47, "hours "), ("TubHireModel", 224, ":"), ("TubHireModel", 226, " no tub"), ("TubHireModel", 212, " "), ("TubHireModel", 218, "l"), ("TubHireModel", 220, "c dirty"), ("TubHireModel", 222, "c"), ("TubHireModel", 231, " h"), ("TubHireModel", 233, " +"), ("TubHire$Command", 59, "out "), ("TubHire$Command", 65, "back "), ("TubHire$Command", 68, "heat "), ("TubHire$Command", 71, "cold "), ("TubHire$Command", 74, "join "), ("TubHire$Command", 77, "mend "), ("TubHire$Command", 80, "wash "), ("TubHire$Command", 83, "soap "), ("TubHire$Command", 86, "hours ")]
def xLen : List Nat := [14, 12, 7, 11, 24, 19, 26, 35, 12, 25, 26, 14, 22, 25, 7, 6, 2, 2, 17, 16, 11, 17, 20, 20, 26, 19, 21, 20, 4, 5, 5, 5, 5, 5, 5, 5, 6, 1, 7, 1, 1, 7, 1, 2, 2, 4, 5, 5, 5, 5, 5, 5, 5, 6]
def xByt : List (List Int32) := [[110, 111, 32, 115, 117, 99, 104, 32, 110, 117, 109, 98, 101, 114], [111, 117, 116, 32, 111, 102, 32, 114, 97, 110, 103, 101], [114, 101, 102, 117, 115, 101, 100], [110, 111, 32, 115, 117, 99, 104, 32, 116, 117, 98], [97, 32, 116, 117, 98, 32, 104, 97, 115, 32, 110, 111, 32, 115, 117, 99, 104, 32, 110, 117, 109, 98, 101, 114], [110, 111, 32, 115, 117, 99, 104, 32, 116, 117, 98, 32, 111, 114, 32, 115, 101, 97, 109], [110, 111, 32, 116, 111, 114, 110, 32, 115, 101, 97, 109, 32, 102, 114, 111, 109, 32, 116, 104, 101, 114, 101, 32, 111, 110], [110, 111, 32, 116, 117, 98, 32, 105, 110, 32, 116, 104, 101, 32, 115, 116, 111, 114, 101, 32, 104, 111, 108, 100, 115, 32, 105, 116, 115, 32, 119, 97, 116, 101, 114], [110, 111, 32, 115, 117, 99, 104, 32, 116, 101, 110, 116], [97, 32, 116, 101, 110, 116, 32, 104, 97, 115, 32, 110, 111, 32, 115, 117, 99, 104, 32, 110, 117, 109, 98, 101, 114], [110, 111, 98, 111, 100, 121, 32, 119, 97, 105, 116, 115, 32, 97, 116, 32, 116, 104, 105, 115, 32, 112, 108, 97, 99, 101], [110, 111, 32, 115, 117, 99, 104, 32, 104, 101, 97, 116, 101, 114], [110, 111, 32, 115, 117, 99, 104, 32, 115, 105, 122, 101, 32, 111, 114, 32, 119, 97, 114, 109, 116, 104], [110, 111, 32, 115, 117, 99, 104, 32, 103, 117, 101, 115, 116, 32, 98, 97, 116, 104, 101, 115, 32, 115, 111, 111, 110], [32, 110, 111, 32, 116, 117, 98], [32, 100, 105, 114, 116, 121], [32, 104], [32, 43], [110, 111, 32, 115, 117, 99, 104, 32, 99, 104, 97, 114, 97, 99, 116, 101, 114], [110, 111, 32, 116, 117, 98, 32, 104, 97, 115, 32, 119, 97, 116, 101, 114], [110, 111, 98, 111, 100, 121, 32, 99, 97, 109, 101], [116, 104, 101, 32, 105, 110, 112, 117, 116, 32, 105, 115, 32, 102, 117, 108, 108], [116, 104, 101, 32, 105, 110, 112, 117, 116, 32, 105, 115, 32, 110, 111, 32, 116, 101, 120, 116], [97, 32, 99, 111, 109, 109, 97, 110, 100, 32, 105, 115, 32, 114, 101, 102, 117, 115, 101, 100], [110, 111, 32, 102, 97, 117, 108, 116, 32, 112, 111, 115, 105, 116, 105, 111, 110, 32, 119, 97, 115, 32, 107, 101, 112, 116], [110, 111, 116, 104, 105, 110, 103, 32, 119, 97, 115, 32, 114, 101, 102, 117, 115, 101, 100], [110, 111, 116, 104, 105, 110, 103, 32, 99, 97, 110, 32, 98, 101, 32, 117, 110, 100, 111, 110, 101], [116, 104, 101, 114, 101, 32, 105, 115, 32, 110, 111, 32, 115, 110, 97, 112, 115, 104, 111, 116], [111, 117, 116, 32], [98, 97, 99, 107, 32], [104, 101, 97, 116, 32], [99, 111, 108, 100, 32], [106, 111, 105, 110, 32], [109, 101, 110, 100, 32], [119, 97, 115, 104, 32], [115, 111, 97, 112, 32], [104, 111, 117, 114, 115, 32], [58], [32, 110, 111, 32, 116, 117, 98], [32], [108], [99, 32, 100, 105, 114, 116, 121], [99], [32, 104], [32, 43], [111, 117, 116, 32], [98, 97, 99, 107, 32], [104, 101, 97, 116, 32], [99, 111, 108, 100, 32], [106, 111, 105, 110, 32], [109, 101, 110, 100, 32], [119, 97, 115, 104, 32], [115, 111, 97, 112, 32], [104, 111, 117, 114, 115, 32]]
/-- the constants of Command, and their int fields -/
def xCmd : List String := ["OUT", "BACK", "HEAT", "COLD", "JOIN", "MEND", "WASH", "SOAP", "HOURS"]
def xCmF : List (String × String × String × List Int32) := [("java/lang/Enum", "ordinal", "I", [0, 1, 2, 3, 4, 5, 6, 7, 8]), ("TubHire$Command", "digits", "I", [2, 1, 2, 1, 1, 2, 0, 0, 0])]
/-- where the word of a command stands among the texts -/
def xWrd : List Nat := [45, 46, 47, 48, 49, 50, 51, 52, 53]
/-- $SwitchMap: which case a command is -/
def xSwt : List Int32 := [1, 2, 3, 4, 5, 6, 7, 8, 0]
abbrev xW : Type := (Nat → Option va_E) × Nat
abbrev xE : Type := (va_G × (Nat → ClassId)) × ((Nat → Nat) × (Nat → Nat) × (Nat → Nat)) × (Nat × Nat × (Nat → Int32))
abbrev xM : Type := MethodName × ByteArray × Nat × Option FieldType × List Cond × Room × (Nat × Nat) × List (Nat × Nat × Nat × Nat)
abbrev xPo : Type := (Option Value ⊕ String) → xW → Prop
abbrev mY (M : xM) : MethodName := M.1
abbrev mC (M : xM) : ByteArray := M.2.1
abbrev mL (M : xM) : Nat := M.2.2.1
abbrev mT (M : xM) : Option FieldType := M.2.2.2.1
abbrev mW (M : xM) : List Cond := M.2.2.2.2.1
abbrev mR (M : xM) : Room := M.2.2.2.2.2.1
abbrev mK (M : xM) : Nat := M.2.2.2.2.2.2.1.1
abbrev mN (M : xM) : Nat := M.2.2.2.2.2.2.1.2
abbrev mH (M : xM) : List (Nat × Nat × Nat × Nat) := M.2.2.2.2.2.2.2
/-- the kinds of arrays, by their numbers -/
abbrev xTys (E : xE) : List (ClassId × FieldType) := [(E.1.2 0, .int), (E.1.2 1, .char), (E.1.2 2, .object "TubHire$Tub"), (E.1.2 3, .object "TubHire$Tent"), (E.1.2 4, .object "TubHire$Heater"), (E.1.2 5, .object "TubHire$Store"), (E.1.2 6, .object "java/lang/String"), (E.1.2 7, .byte), (E.1.2 8, .long), (E.1.2 9, .double)]
def xP (E : xE) (w : xW) (H : Heap) : Prop := (∀ (a : Nat) (e : va_E), w.1 a = some e → va_at E.1.1 vwCl (a, e) H) ∧ H.size = w.2
def xA (w : xW) : Nat → Prop := fun q => w.1 q ≠ none ∨ w.2 ≤ q
def xSub (u : xW) (A : Nat → Prop) : Prop := ∀ a, u.1 a ≠ none → A a
/-- what is given of the constants, and of the script: none of them is ever written -/
def xC (E : xE) (A : Nat → Prop) (U : State) (H : Heap) : Prop :=
  (vx_Zq Bundle.tN "UNASSIGNED_STACK" Bundle.steD A U H ∧ vx_Zq Bundle.tN "SUPPRESSED_SENTINEL" Bundle.listD A U H) ∧
  (∀ (i : Nat) (q : String × Nat × String), xStr[i]? = some q → vk_R q.1 q.2.1 q.2.2 (E.2.1.1 i) U) ∧
  vk_S xStr.length xLen xByt E.2.1.1 E.2.1.2.1 A U H ∧
  (va_En "TubHire$Command" "LTubHire$Command;" xCmd xCmF E.2.1.2.2 A U H ∧ ∀ i, i < 9 → va_OF "TubHire$Command" "word" "Ljava/lang/String;" (.ref (E.2.1.1 (xWrd.getD i 0))) (E.2.1.2.2 i) A U H) ∧
  (va_Z "TubHire$Command" "ALL" "[LTubHire$Command;" (.ref (E.2.1.2.2 100)) A U H ∧ va_T (.object "TubHire$Command") (E.2.1.2.2 100) 9 (fun k => .ref (E.2.1.2.2 k)) A U H) ∧
  (va_Z "TubHire$1" "$SwitchMap$TubHire$Command" "[I" (.ref (E.2.1.2.2 101)) A U H ∧ va_T .int (E.2.1.2.2 101) 9 (fun k => .int (xSwt.getD k 0)) A U H) ∧
  (va_X E.2.2.1 E.2.2.2.1 E.2.2.2.2 U H ∧ ¬ A E.2.2.1)
theorem xC.at {E : xE} {A B : Nat → Prop} {u U : State} {H H1 : Heap} (hvm : u.WarmedH U.vm) (h : xC E A u H) (hq : ∀ a : Nat, a < H.size → ¬ A a → H1[a]? = H[a]?) (hAB : ∀ q, B q → A q) : xC E B U H1 := by
  obtain ⟨⟨a1, a2⟩, a3, a4, ⟨a5, a6⟩, ⟨a7, a8⟩, ⟨a9, a10⟩, a11, a12⟩ := h
  refine ⟨⟨((vx_Zq.moved hvm.alike a1).kept hq).narrow hAB, ((vx_Zq.moved hvm.alike a2).kept hq).narrow hAB⟩, fun i q hi => (a3 i q hi).warm hvm, ((vk_S.moved hvm.alike a4).kept hq).narrow hAB,
    ⟨((va_En.moved hvm.alike a5).kept hq).narrow hAB, fun i hi => ((va_OF.moved hvm.alike (a6 i hi)).kept hq).narrow hAB⟩,
    ⟨((va_Z.moved hvm.alike a7).kept hq).narrow hAB, ((va_T.moved hvm.alike a8).kept hq).narrow hAB⟩,
    ⟨((va_Z.moved hvm.alike a9).kept hq).narrow hAB, ((va_T.moved hvm.alike a10).kept hq).narrow hAB⟩,
    (va_X.moved hvm.alike a11).kept (hq _ ?_ a12), fun hb => a12 (hAB _ hb)⟩
  obtain ⟨scr, h1, -⟩ := a11
  exact (Array.getElem?_eq_some_iff.mp h1).1
def xEnv (E : xE) (A : Nat → Prop) (U : State) : Prop := va_K E.1.1 vwCl (xTys E) U ∧ xC E A U U.heap
/-- a method's end: it returns, or throws a class -/
def xQ (E : xE) (Po : xPo) (A : Nat → Prop) : Array Value → State → Outcome → State → Prop := fun _ st oc t =>
  (∃ (v : Option Value) (u : xW), oc = .returned v ∧ Po (.inl v) u ∧ xP E u t.heap ∧ xSub u A) ∧ va_F A st t
def xX (E : xE) (Po : xPo) (A : Nat → Prop) : String → State → State → Prop := fun X st t =>
  (∃ u : xW, Po (.inr X) u ∧ xP E u t.heap ∧ xSub u A) ∧ va_F A st t
def xPc (E : xE) (as : List Value) (w : xW) : Array Value → State → Prop := va_Pc as (fun U => xP E w U.heap ∧ xEnv E (xA w) U)
/-- THE CONTRACT of a method at these arguments, in this world -/
def Ct (M : xM) (E : xE) (as : List Value) (w : xW) (Po : xPo) : Prop :=
  ∀ l : Launch, l.stackTraces = false → vx_Met l (mY M) (mW M) (mR M) (xPc E as w) (xQ E Po (xA w)) (xX E Po (xA w)) (mK M) (mN M) (xA w)
/-- the locals that are known -/
def xL (ls : Array Slot) (nL : Nat) (L : List (Option Value)) : Prop := ls.size = nL ∧ lv_wf ls ∧ ∀ (i : Nat) (v : Value), L[i]? = some (some v) → ls[i]? = some (.val v)
def xCtx (M : xM) (E : xE) (w0 : xW) (p : Program) (l : Launch) (s : State) (m : MethodId) (args : Array Value) (meth : Method) (c : Code) : Prop :=
  p.tables.exec = Jvm.exec ∧ c.code = mC M ∧ meth.sig.returnType = mT M ∧ c.maxLocals = mL M ∧ (∀ w ∈ mW M, w.before args s = true) ∧ s.vm.findClass (mY M).cls = some m.cls ∧ meth.locks = false ∧ l.stackTraces = false ∧ c.exceptionTable.toList = tableOf (mH M) ∧ meth.name = (mY M).name ∧ xEnv E (xA w0) s ∧ s.heap.size = w0.2
/-- THE JUDGEMENT: method M, begun in world w0, at pc with these locals and stack in world w, having made k cells of n slots, comes to an end that Po allows -/
def WF (M : xM) (E : xE) (Po : xPo) (w0 : xW) (pc : Nat) (L : List (Option Value)) (st : List Value) (w : xW) (k n : Nat) : Prop :=
  ∀ (p : Program) (l : Launch) (e : Env) (s : State) (m : MethodId) (args : Array Value) (below : List Frame) (meth : Method) (c : Code) (H : Heap) (locs : List Loc) (ls : Array Slot),
    xCtx M E w0 p l s m args meth c → xP E w H → xSub w (xA w0) → va_S (xA w0) s.heap H locs → xL ls (mL M) L →
    W p l e (mR M) s m args below meth c H locs k n (vx_MQ below (xQ E Po (xA w0)) (xX E Po (xA w0)) args s (mK M) (mN M) (xA w0)) (F0 m pc ls st)
def xset (w : xW) (a : Nat) (e : va_E) : xW := (fun q => if q = a then some e else w.1 q, w.2)
theorem xset_s {w : xW} {a : Nat} {e : va_E} : (xset w a e).1 a = some e := if_pos rfl
theorem xset_o {w : xW} {a q : Nat} {e : va_E} (h : q ≠ a) : (xset w a e).1 q = w.1 q := if_neg h
theorem xset_n {w : xW} {a : Nat} {e : va_E} : (xset w a e).2 = w.2 := rfl
theorem xP.put {E : xE} {w : xW} {H H1 : Heap} {a : Nat} {e : va_E} (h : xP E w H) (he : va_at E.1.1 vwCl (a, e) H1) (oq : ∀ q : Nat, q ≠ a → H1[q]? = H[q]?) (hz : H1.size = H.size) : xP E (xset w a e) H1 := by
  refine ⟨fun q x hq => ?_, hz.trans h.2⟩
  by_cases hqa : q = a
  · subst hqa
    rw [xset_s] at hq
    cases hq
    exact he
  · rw [xset_o hqa] at hq
    exact (h.1 q x hq).kept (oq q hqa)
theorem xSub.put {w : xW} {A : Nat → Prop} {a : Nat} {e : va_E} (h : xSub w A) (ha : A a) : xSub (xset w a e) A := by
  intro q hq
  by_cases hqa : q = a
  · subst hqa; exact ha
  · rw [xset_o hqa] at hq; exact h q hq
theorem xL.get {ls : Array Slot} {nL : Nat} {L : List (Option Value)} (h : xL ls nL L) {i : Nat} {v : Value} (hi : L[i]? = some (some v)) : ls[i]? = some (.val v) := h.2.2 i v hi
theorem xL.has {ls : Array Slot} {nL : Nat} {L : List (Option Value)} (h : xL ls nL L) : lv_has ls nL (L.zipIdx.filterMap (fun q => q.1.map (fun v => (q.2, v)))) := by
  refine ⟨h.1, h.2.1, fun q hq => ?_⟩
  obtain ⟨⟨o, j⟩, hm, he⟩ := List.mem_filterMap.mp hq
  cases o with
  | none => simp at he
  | some v =>
    simp at he
    subst he
    have h1 := List.mem_zipIdx hm
    obtain ⟨h2, h3, h4⟩ := h1
    refine h.2.2 j v ?_
    have h5 : j < L.length := by omega
    rw [List.getElem?_eq_getElem h5]
    simp at h4
    rw [← h4]
theorem xL.mem {L : List (Option Value)} {i : Nat} {v : Value} (hi : L[i]? = some (some v)) : (i, v) ∈ L.zipIdx.filterMap (fun q => q.1.map (fun v => (q.2, v))) := by
  refine List.mem_filterMap.mpr ⟨(some v, i), ?_, rfl⟩
  exact List.mem_zipIdx_iff_getElem?.mpr hi
/-- what may stand below a stored place: nothing of two words -/
def xOne (L : List (Option Value)) (i : Nat) : Prop := ∀ v : Value, 1 ≤ i → L[i - 1]? = some (some v) → v.category = 1
theorem xL.of {ls : Array Slot} {nL : Nat} {L : List (Option Value)} {i : Nat} {v : Value} (h1 : xOne L i)
    (h : lv_has ls nL ((i, v) :: (L.zipIdx.filterMap (fun q => q.1.map (fun v => (q.2, v)))).filter (fun q => !(q.1 == i) && !(q.1 + 1 == i && q.2.category == 2)))) : xL ls nL (L.set i (some v)) := by
  refine ⟨h.1, h.2.1, fun j u hj => ?_⟩
  by_cases hij : j = i
  · subst hij
    have hl : j < L.length := by
      have := (List.getElem?_eq_some_iff.mp hj).1
      simpa using this
    rw [List.getElem?_set_self hl] at hj
    have e9 : v = u := Option.some.inj (Option.some.inj hj)
    subst e9
    exact h.2.2 (_, _) List.mem_cons_self
  · rw [List.getElem?_set_ne (Ne.symm hij)] at hj
    refine h.2.2 (j, u) (List.mem_cons_of_mem _ (List.mem_filter.mpr ⟨xL.mem hj, ?_⟩))
    have hc : ¬ (j + 1 = i ∧ u.category = 2) := by
      rintro ⟨e1, e2⟩
      have h3 := h1 u (by omega) (by rw [show i - 1 = j by omega]; exact hj)
      omega
    simp only [Bool.and_eq_true, Bool.not_eq_true', beq_eq_false_iff_ne, ne_eq, Bool.and_eq_false_iff]
    refine ⟨hij, ?_⟩
    by_cases e1 : j + 1 = i
    · right
      exact fun e2 => hc ⟨e1, e2⟩
    · left; exact e1
theorem xL.weak {ls : Array Slot} {nL : Nat} {L L' : List (Option Value)} (h : xL ls nL L) (hL : ∀ (i : Nat) (v : Value), L'[i]? = some (some v) → L[i]? = some (some v)) : xL ls nL L' := ⟨h.1, h.2.1, fun i v hi => h.2.2 i v (hL i v hi)⟩
end
section
/-! ===== 03.rules: a rule of WF an instruction (printed by wip/whole/gen/rules.py) ===== -/
section XRULES
variable {M M2 : xM} {E : xE} {Po : xPo} {w0 w : xW} {pc q : Nat} {L : List (Option Value)} {st : List Value} {k n : Nat}
theorem WF.weakL {L2 : List (Option Value)} (h : WF M E Po w0 pc L2 st w k n) (hL : ∀ (i : Nat) (v : Value), L2[i]? = some (some v) → L[i]? = some (some v)) : WF M E Po w0 pc L st w k n :=
  fun p l e s m args below meth c H locs ls C hP hs hS hl => h p l e s m args below meth c H locs ls C hP hs hS (hl.weak hL)
theorem WF.wide {k2 n2 : Nat} (h : WF M E Po w0 pc L st w k2 n2) (hk : k ≤ k2) (hn : n ≤ n2) : WF M E Po w0 pc L st w k n :=
  fun p l e s m args below meth c H locs ls C hP hs hS hl => W.widen hk hn (h p l e s m args below meth c H locs ls C hP hs hS hl)
/-- a rule that changes pc and stack alone -/
theorem r_of {st2 : List Value} (h : ∀ (p : Program) (l : Launch) (e : Env) (R : Room) (s : State) (m : MethodId) (args : Array Value) (below : List Frame) (meth : Method) (c : Code) (H : Heap) (locs : List Loc) (cells slots : Nat) (Q : State → Prop) (ls : Array Slot), p.tables.exec = Jvm.exec → c.code = mC M → xL ls (mL M) L → W p l e R s m args below meth c H locs cells slots Q (F0 m q ls st2) → W p l e R s m args below meth c H locs cells slots Q (F0 m pc ls st))
    (kk : WF M E Po w0 q L st2 w k n) : WF M E Po w0 pc L st w k n :=
  fun p l e s m args below meth c H locs ls C hP hs hS hl => h p l e _ s m args below meth c H locs k n _ ls C.1 C.2.1 hl (kk p l e s m args below meth c H locs ls C hP hs hS hl)
/-- a rule that has two ways on -/
theorem r_of2 {q2 : Nat} {A B : Prop} {st2 : List Value} (h : ∀ (p : Program) (l : Launch) (e : Env) (R : Room) (s : State) (m : MethodId) (args : Array Value) (below : List Frame) (meth : Method) (c : Code) (H : Heap) (locs : List Loc) (cells slots : Nat) (Q : State → Prop) (ls : Array Slot), p.tables.exec = Jvm.exec → c.code = mC M → (A → W p l e R s m args below meth c H locs cells slots Q (F0 m q ls st2)) → (B → W p l e R s m args below meth c H locs cells slots Q (F0 m q2 ls st2)) → W p l e R s m args below meth c H locs cells slots Q (F0 m pc ls st))
    (kt : A → WF M E Po w0 q L st2 w k n) (kf : B → WF M E Po w0 q2 L st2 w k n) : WF M E Po w0 pc L st w k n :=
  fun p l e s m args below meth c H locs ls C hP hs hS hl => h p l e _ s m args below meth c H locs k n _ ls C.1 C.2.1 (fun a => kt a p l e s m args below meth c H locs ls C hP hs hS hl) (fun b => kf b p l e s m args below meth c H locs ls C hP hs hS hl)
theorem r_iload_n {i : Nat} {j : Fin 4} {x : Int32} (hd : decode (mC M) pc = .ok (.iload_n j, 1)) (hj : (j : Nat) = i) (hv : L[i]? = some (some (.int x))) (hq : pc + 1 = q) (kk : WF M E Po w0 q L (.int x :: st) w k n) : WF M E Po w0 pc L (st) w k n := by
  subst hq; exact r_of (fun _ _ _ _ _ _ _ _ _ _ _ _ _ _ _ _ hx hb hl k => lv_iload_n hx hb hd hj (hl.get hv) k) kk
theorem r_iload {i : Nat} {x : Int32} (hd : decode (mC M) pc = .ok (.iload i, 2)) (hv : L[i]? = some (some (.int x))) (hq : pc + 2 = q) (kk : WF M E Po w0 q L (.int x :: st) w k n) : WF M E Po w0 pc L (st) w k n := by
  subst hq; exact r_of (fun _ _ _ _ _ _ _ _ _ _ _ _ _ _ _ _ hx hb hl k => lv_iload hx hb hd (hl.get hv) k) kk
theorem r_aload_n {i : Nat} {j : Fin 4} {x : Nat} (hd : decode (mC M) pc = .ok (.aload_n j, 1)) (hj : (j : Nat) = i) (hv : L[i]? = some (some (.ref x))) (hq : pc + 1 = q) (kk : WF M E Po w0 q L (.ref x :: st) w k n) : WF M E Po w0 pc L (st) w k n := by
  subst hq; exact r_of (fun _ _ _ _ _ _ _ _ _ _ _ _ _ _ _ _ hx hb hl k => lv_aload_n hx hb hd hj (hl.get hv) k) kk
theorem r_aload {i : Nat} {x : Nat} (hd : decode (mC M) pc = .ok (.aload i, 2)) (hv : L[i]? = some (some (.ref x))) (hq : pc + 2 = q) (kk : WF M E Po w0 q L (.ref x :: st) w k n) : WF M E Po w0 pc L (st) w k n := by
  subst hq; exact r_of (fun _ _ _ _ _ _ _ _ _ _ _ _ _ _ _ _ hx hb hl k => lv_aload hx hb hd (hl.get hv) k) kk
theorem r_aload_nN {i : Nat} {j : Fin 4}  (hd : decode (mC M) pc = .ok (.aload_n j, 1)) (hj : (j : Nat) = i) (hv : L[i]? = some (some (.null))) (hq : pc + 1 = q) (kk : WF M E Po w0 q L (.null :: st) w k n) : WF M E Po w0 pc L (st) w k n := by
  subst hq; exact r_of (fun _ _ _ _ _ _ _ _ _ _ _ _ _ _ _ _ hx hb hl k => lv_aload_nN hx hb hd hj (hl.get hv) k) kk
theorem r_aloadN {i : Nat}  (hd : decode (mC M) pc = .ok (.aload i, 2)) (hv : L[i]? = some (some (.null))) (hq : pc + 2 = q) (kk : WF M E Po w0 q L (.null :: st) w k n) : WF M E Po w0 pc L (st) w k n := by
  subst hq; exact r_of (fun _ _ _ _ _ _ _ _ _ _ _ _ _ _ _ _ hx hb hl k => lv_aloadN hx hb hd (hl.get hv) k) kk
theorem r_dload {i : Nat} {x : UInt64} (hd : decode (mC M) pc = .ok (.dload i, 2)) (hv : L[i]? = some (some (.double x))) (hq : pc + 2 = q) (kk : WF M E Po w0 q L (.double x :: st) w k n) : WF M E Po w0 pc L (st) w k n := by
  subst hq; exact r_of (fun _ _ _ _ _ _ _ _ _ _ _ _ _ _ _ _ hx hb hl k => lv_dload hx hb hd (hl.get hv) k) kk
theorem r_fload {i : Nat} {x : UInt32} (hd : decode (mC M) pc = .ok (.fload i, 2)) (hv : L[i]? = some (some (.float x))) (hq : pc + 2 = q) (kk : WF M E Po w0 q L (.float x :: st) w k n) : WF M E Po w0 pc L (st) w k n := by
  subst hq; exact r_of (fun _ _ _ _ _ _ _ _ _ _ _ _ _ _ _ _ hx hb hl k => lv_fload hx hb hd (hl.get hv) k) kk
theorem r_iconst {i : Int} {v : Int32} (hd : decode (mC M) pc = .ok (.iconst i, 1)) (hv : Int32.ofInt i = v) (hq : pc + 1 = q) (kk : WF M E Po w0 q L (.int v :: st) w k n) : WF M E Po w0 pc L (st) w k n := by
  subst hq; exact r_of (fun _ _ _ _ _ _ _ _ _ _ _ _ _ _ _ _ hx hb hl k => lv_iconst hx hb hd hv k) kk
theorem r_bipush {i : Int} {v : Int32} (hd : decode (mC M) pc = .ok (.bipush i, 2)) (hv : (Int8.ofInt i).toInt32 = v) (hq : pc + 2 = q) (kk : WF M E Po w0 q L (.int v :: st) w k n) : WF M E Po w0 pc L (st) w k n := by
  subst hq; exact r_of (fun _ _ _ _ _ _ _ _ _ _ _ _ _ _ _ _ hx hb hl k => lv_bipush hx hb hd hv k) kk
theorem r_sipush {i : Int} {v : Int32} (hd : decode (mC M) pc = .ok (.sipush i, 3)) (hv : (Int16.ofInt i).toInt32 = v) (hq : pc + 3 = q) (kk : WF M E Po w0 q L (.int v :: st) w k n) : WF M E Po w0 pc L (st) w k n := by
  subst hq; exact r_of (fun _ _ _ _ _ _ _ _ _ _ _ _ _ _ _ _ hx hb hl k => lv_sipush hx hb hd hv k) kk
theorem r_null  (hd : decode (mC M) pc = .ok (.aconst_null, 1)) (hq : pc + 1 = q) (kk : WF M E Po w0 q L (.null :: st) w k n) : WF M E Po w0 pc L (st) w k n := by
  subst hq; exact r_of (fun _ _ _ _ _ _ _ _ _ _ _ _ _ _ _ _ hx hb hl k => lv_null hx hb hd k) kk
theorem r_iadd {x y : Int32} (hd : decode (mC M) pc = .ok (.iadd, 1)) (hq : pc + 1 = q) (kk : WF M E Po w0 q L (.int (x + y) :: st) w k n) : WF M E Po w0 pc L (.int y :: .int x :: st) w k n := by
  subst hq; exact r_of (fun _ _ _ _ _ _ _ _ _ _ _ _ _ _ _ _ hx hb hl k => lv_iadd hx hb hd k) kk
theorem r_isub {x y : Int32} (hd : decode (mC M) pc = .ok (.isub, 1)) (hq : pc + 1 = q) (kk : WF M E Po w0 q L (.int (x - y) :: st) w k n) : WF M E Po w0 pc L (.int y :: .int x :: st) w k n := by
  subst hq; exact r_of (fun _ _ _ _ _ _ _ _ _ _ _ _ _ _ _ _ hx hb hl k => lv_isub hx hb hd k) kk
theorem r_imul {x y : Int32} (hd : decode (mC M) pc = .ok (.imul, 1)) (hq : pc + 1 = q) (kk : WF M E Po w0 q L (.int (x * y) :: st) w k n) : WF M E Po w0 pc L (.int y :: .int x :: st) w k n := by
  subst hq; exact r_of (fun _ _ _ _ _ _ _ _ _ _ _ _ _ _ _ _ hx hb hl k => lv_imul hx hb hd k) kk
theorem r_iand {x y : Int32} (hd : decode (mC M) pc = .ok (.iand, 1)) (hq : pc + 1 = q) (kk : WF M E Po w0 q L (.int (x &&& y) :: st) w k n) : WF M E Po w0 pc L (.int y :: .int x :: st) w k n := by
  subst hq; exact r_of (fun _ _ _ _ _ _ _ _ _ _ _ _ _ _ _ _ hx hb hl k => lv_iand hx hb hd k) kk
theorem r_ior {x y : Int32} (hd : decode (mC M) pc = .ok (.ior, 1)) (hq : pc + 1 = q) (kk : WF M E Po w0 q L (.int (x ||| y) :: st) w k n) : WF M E Po w0 pc L (.int y :: .int x :: st) w k n := by
  subst hq; exact r_of (fun _ _ _ _ _ _ _ _ _ _ _ _ _ _ _ _ hx hb hl k => lv_ior hx hb hd k) kk
theorem r_ixor {x y : Int32} (hd : decode (mC M) pc = .ok (.ixor, 1)) (hq : pc + 1 = q) (kk : WF M E Po w0 q L (.int (x ^^^ y) :: st) w k n) : WF M E Po w0 pc L (.int y :: .int x :: st) w k n := by
  subst hq; exact r_of (fun _ _ _ _ _ _ _ _ _ _ _ _ _ _ _ _ hx hb hl k => lv_ixor hx hb hd k) kk
theorem r_ishl {x y : Int32} (hd : decode (mC M) pc = .ok (.ishl, 1)) (hq : pc + 1 = q) (kk : WF M E Po w0 q L (.int (x <<< (y &&& 31)) :: st) w k n) : WF M E Po w0 pc L (.int y :: .int x :: st) w k n := by
  subst hq; exact r_of (fun _ _ _ _ _ _ _ _ _ _ _ _ _ _ _ _ hx hb hl k => lv_ishl hx hb hd k) kk
theorem r_ishr {x y : Int32} (hd : decode (mC M) pc = .ok (.ishr, 1)) (hq : pc + 1 = q) (kk : WF M E Po w0 q L (.int (x >>> (y &&& 31)) :: st) w k n) : WF M E Po w0 pc L (.int y :: .int x :: st) w k n := by
  subst hq; exact r_of (fun _ _ _ _ _ _ _ _ _ _ _ _ _ _ _ _ hx hb hl k => lv_ishr hx hb hd k) kk
theorem r_idiv {x y : Int32} (hd : decode (mC M) pc = .ok (.idiv, 1)) (hne : ¬ y = 0) (hq : pc + 1 = q) (kk : WF M E Po w0 q L (.int (x / y) :: st) w k n) : WF M E Po w0 pc L (.int y :: .int x :: st) w k n := by
  subst hq; exact r_of (fun _ _ _ _ _ _ _ _ _ _ _ _ _ _ _ _ hx hb hl k => lv_idiv hx hb hd hne k) kk
theorem r_irem {x y : Int32} (hd : decode (mC M) pc = .ok (.irem, 1)) (hne : ¬ y = 0) (hq : pc + 1 = q) (kk : WF M E Po w0 q L (.int (x - x / y * y) :: st) w k n) : WF M E Po w0 pc L (.int y :: .int x :: st) w k n := by
  subst hq; exact r_of (fun _ _ _ _ _ _ _ _ _ _ _ _ _ _ _ _ hx hb hl k => lv_irem hx hb hd hne k) kk
theorem r_iushr {x y : Int32} (hd : decode (mC M) pc = .ok (.iushr, 1)) (hq : pc + 1 = q) (kk : WF M E Po w0 q L (.int ((x.toUInt32 >>> (y.toUInt32 &&& Int32.toUInt32 31)).toInt32) :: st) w k n) : WF M E Po w0 pc L (.int y :: .int x :: st) w k n := by
  subst hq; exact r_of (fun _ _ _ _ _ _ _ _ _ _ _ _ _ _ _ _ hx hb hl k => lv_iushr hx hb hd rfl k) kk
theorem r_ineg {x : Int32} (hd : decode (mC M) pc = .ok (.ineg, 1)) (hq : pc + 1 = q) (kk : WF M E Po w0 q L (.int (-x) :: st) w k n) : WF M E Po w0 pc L (.int x :: st) w k n := by
  subst hq; exact r_of (fun _ _ _ _ _ _ _ _ _ _ _ _ _ _ _ _ hx hb hl k => lv_ineg hx hb hd k) kk
theorem r_i2c {x : Int32} (hd : decode (mC M) pc = .ok (.i2c, 1)) (hq : pc + 1 = q) (kk : WF M E Po w0 q L (.int ((x.toUInt32 % 65536).toInt32) :: st) w k n) : WF M E Po w0 pc L (.int x :: st) w k n := by
  subst hq; exact r_of (fun _ _ _ _ _ _ _ _ _ _ _ _ _ _ _ _ hx hb hl k => lv_i2c hx hb hd rfl k) kk
theorem r_i2l {x : Int32} (hd : decode (mC M) pc = .ok (.i2l, 1)) (hq : pc + 1 = q) (kk : WF M E Po w0 q L (.long x.toInt64 :: st) w k n) : WF M E Po w0 pc L (.int x :: st) w k n := by
  subst hq; exact r_of (fun _ _ _ _ _ _ _ _ _ _ _ _ _ _ _ _ hx hb hl k => lv_i2l hx hb hd rfl k) kk
theorem r_i2d {x : Int32} (hd : decode (mC M) pc = .ok (.i2d, 1)) (hq : pc + 1 = q) (kk : WF M E Po w0 q L (.double (FP.i2d x) :: st) w k n) : WF M E Po w0 pc L (.int x :: st) w k n := by
  subst hq; exact r_of (fun _ _ _ _ _ _ _ _ _ _ _ _ _ _ _ _ hx hb hl k => lv_i2d hx hb hd k) kk
theorem r_i2f {x : Int32} (hd : decode (mC M) pc = .ok (.i2f, 1)) (hq : pc + 1 = q) (kk : WF M E Po w0 q L (.float (FP.i2f x) :: st) w k n) : WF M E Po w0 pc L (.int x :: st) w k n := by
  subst hq; exact r_of (fun _ _ _ _ _ _ _ _ _ _ _ _ _ _ _ _ hx hb hl k => lv_i2f hx hb hd k) kk
theorem r_f2d {x : UInt32} (hd : decode (mC M) pc = .ok (.f2d, 1)) (hne : vf_n64 (FP.f2d x)) (hq : pc + 1 = q) (kk : WF M E Po w0 q L (.double (FP.f2d x) :: st) w k n) : WF M E Po w0 pc L (.float x :: st) w k n := by
  subst hq; exact r_of (fun _ _ _ _ _ _ _ _ _ _ _ _ _ _ _ _ hx hb hl k => lv_f2d hx hb hd hne k) kk
theorem r_ddiv {x y : UInt64} (hd : decode (mC M) pc = .ok (.ddiv, 1)) (hne : vf_n64 (FP.ddiv x y)) (hq : pc + 1 = q) (kk : WF M E Po w0 q L (.double (FP.ddiv x y) :: st) w k n) : WF M E Po w0 pc L (.double y :: .double x :: st) w k n := by
  subst hq; exact r_of (fun _ _ _ _ _ _ _ _ _ _ _ _ _ _ _ _ hx hb hl k => lv_ddiv hx hb hd hne k) kk
theorem r_fdiv {x y : UInt32} (hd : decode (mC M) pc = .ok (.fdiv, 1)) (hne : vf_n32 (FP.fdiv x y)) (hq : pc + 1 = q) (kk : WF M E Po w0 q L (.float (FP.fdiv x y) :: st) w k n) : WF M E Po w0 pc L (.float y :: .float x :: st) w k n := by
  subst hq; exact r_of (fun _ _ _ _ _ _ _ _ _ _ _ _ _ _ _ _ hx hb hl k => lv_fdiv hx hb hd hne k) kk
theorem r_dup {v : Value} (hd : decode (mC M) pc = .ok (.dup, 1)) (hc : v.category = 1) (hq : pc + 1 = q) (kk : WF M E Po w0 q L (v :: v :: st) w k n) : WF M E Po w0 pc L (v :: st) w k n := by
  subst hq; exact r_of (fun _ _ _ _ _ _ _ _ _ _ _ _ _ _ _ _ hx hb hl k => lv_dup hx hb hd hc k) kk
theorem r_pop {v : Value} (hd : decode (mC M) pc = .ok (.pop, 1)) (hc : v.category = 1) (hq : pc + 1 = q) (kk : WF M E Po w0 q L (st) w k n) : WF M E Po w0 pc L (v :: st) w k n := by
  subst hq; exact r_of (fun _ _ _ _ _ _ _ _ _ _ _ _ _ _ _ _ hx hb hl k => lv_pop hx hb hd hc k) kk
theorem r_dup2 {v u : Value} (hd : decode (mC M) pc = .ok (.dup2, 1)) (hc : v.category = 1) (hc2 : u.category = 1) (hq : pc + 1 = q) (kk : WF M E Po w0 q L (v :: u :: v :: u :: st) w k n) : WF M E Po w0 pc L (v :: u :: st) w k n := by
  subst hq; exact r_of (fun _ _ _ _ _ _ _ _ _ _ _ _ _ _ _ _ hx hb hl k => lv_dup2_11 hx hb hd hc hc2 k) kk
theorem r_dup_x1 {v u : Value} (hd : decode (mC M) pc = .ok (.dup_x1, 1)) (hc : v.category = 1) (hc2 : u.category = 1) (hq : pc + 1 = q) (kk : WF M E Po w0 q L (v :: u :: v :: st) w k n) : WF M E Po w0 pc L (v :: u :: st) w k n := by
  subst hq; exact r_of (fun _ _ _ _ _ _ _ _ _ _ _ _ _ _ _ _ hx hb hl k => lv_dup_x1 hx hb hd hc hc2 k) kk
theorem r_goto {off : Int} (hd : decode (mC M) pc = .ok (.goto off, 3)) (ht : (pc : Int) + off = (q : Int)) (kk : WF M E Po w0 q L st w k n) : WF M E Po w0 pc L st w k n := r_of (fun _ _ _ _ _ _ _ _ _ _ _ _ _ _ _ _ hx hb hl k => lv_goto hx hb hd ht k) kk
theorem r_if_eq {q2 : Nat} {off : Int} {x : Int32} (hd : decode (mC M) pc = .ok (.ifCond .eq off, 3)) (ht : (pc : Int) + off = (q : Int)) (hq : pc + 3 = q2) (kt : x = 0 → WF M E Po w0 q L st w k n) (kf : ¬ x = 0 → WF M E Po w0 q2 L st w k n) : WF M E Po w0 pc L (.int x :: st) w k n := by
  subst hq; exact r_of2 (fun _ _ _ _ _ _ _ _ _ _ _ _ _ _ _ _ hx hb kt kf => lv_if_eq hx hb hd ht kt kf) kt kf
theorem r_if_ne {q2 : Nat} {off : Int} {x : Int32} (hd : decode (mC M) pc = .ok (.ifCond .ne off, 3)) (ht : (pc : Int) + off = (q : Int)) (hq : pc + 3 = q2) (kt : ¬ x = 0 → WF M E Po w0 q L st w k n) (kf : x = 0 → WF M E Po w0 q2 L st w k n) : WF M E Po w0 pc L (.int x :: st) w k n := by
  subst hq; exact r_of2 (fun _ _ _ _ _ _ _ _ _ _ _ _ _ _ _ _ hx hb kt kf => lv_if_ne hx hb hd ht kt kf) kt kf
theorem r_if_lt {q2 : Nat} {off : Int} {x : Int32} (hd : decode (mC M) pc = .ok (.ifCond .lt off, 3)) (ht : (pc : Int) + off = (q : Int)) (hq : pc + 3 = q2) (kt : x < 0 → WF M E Po w0 q L st w k n) (kf : ¬ x < 0 → WF M E Po w0 q2 L st w k n) : WF M E Po w0 pc L (.int x :: st) w k n := by
  subst hq; exact r_of2 (fun _ _ _ _ _ _ _ _ _ _ _ _ _ _ _ _ hx hb kt kf => lv_if_lt hx hb hd ht kt kf) kt kf
theorem r_if_ge {q2 : Nat} {off : Int} {x : Int32} (hd : decode (mC M) pc = .ok (.ifCond .ge off, 3)) (ht : (pc : Int) + off = (q : Int)) (hq : pc + 3 = q2) (kt : 0 ≤ x → WF M E Po w0 q L st w k n) (kf : ¬ 0 ≤ x → WF M E Po w0 q2 L st w k n) : WF M E Po w0 pc L (.int x :: st) w k n := by
  subst hq; exact r_of2 (fun _ _ _ _ _ _ _ _ _ _ _ _ _ _ _ _ hx hb kt kf => lv_if_ge hx hb hd ht kt kf) kt kf
theorem r_if_gt {q2 : Nat} {off : Int} {x : Int32} (hd : decode (mC M) pc = .ok (.ifCond .gt off, 3)) (ht : (pc : Int) + off = (q : Int)) (hq : pc + 3 = q2) (kt : 0 < x → WF M E Po w0 q L st w k n) (kf : ¬ 0 < x → WF M E Po w0 q2 L st w k n) : WF M E Po w0 pc L (.int x :: st) w k n := by
  subst hq; exact r_of2 (fun _ _ _ _ _ _ _ _ _ _ _ _ _ _ _ _ hx hb kt kf => lv_if_gt hx hb hd ht kt kf) kt kf
theorem r_if_le {q2 : Nat} {off : Int} {x : Int32} (hd : decode (mC M) pc = .ok (.ifCond .le off, 3)) (ht : (pc : Int) + off = (q : Int)) (hq : pc + 3 = q2) (kt : x ≤ 0 → WF M E Po w0 q L st w k n) (kf : ¬ x ≤ 0 → WF M E Po w0 q2 L st w k n) : WF M E Po w0 pc L (.int x :: st) w k n := by
  subst hq; exact r_of2 (fun _ _ _ _ _ _ _ _ _ _ _ _ _ _ _ _ hx hb kt kf => lv_if_le hx hb hd ht kt kf) kt kf
theorem r_icmp_eq {q2 : Nat} {off : Int} {x y : Int32} (hd : decode (mC M) pc = .ok (.if_icmp .eq off, 3)) (ht : (pc : Int) + off = (q : Int)) (hq : pc + 3 = q2) (kt : x = y → WF M E Po w0 q L st w k n) (kf : ¬ x = y → WF M E Po w0 q2 L st w k n) : WF M E Po w0 pc L (.int y :: .int x :: st) w k n := by
  subst hq; exact r_of2 (fun _ _ _ _ _ _ _ _ _ _ _ _ _ _ _ _ hx hb kt kf => lv_icmp_eq hx hb hd ht kt kf) kt kf
theorem r_icmp_ne {q2 : Nat} {off : Int} {x y : Int32} (hd : decode (mC M) pc = .ok (.if_icmp .ne off, 3)) (ht : (pc : Int) + off = (q : Int)) (hq : pc + 3 = q2) (kt : ¬ x = y → WF M E Po w0 q L st w k n) (kf : x = y → WF M E Po w0 q2 L st w k n) : WF M E Po w0 pc L (.int y :: .int x :: st) w k n := by
  subst hq; exact r_of2 (fun _ _ _ _ _ _ _ _ _ _ _ _ _ _ _ _ hx hb kt kf => lv_icmp_ne hx hb hd ht kt kf) kt kf
theorem r_icmp_lt {q2 : Nat} {off : Int} {x y : Int32} (hd : decode (mC M) pc = .ok (.if_icmp .lt off, 3)) (ht : (pc : Int) + off = (q : Int)) (hq : pc + 3 = q2) (kt : x < y → WF M E Po w0 q L st w k n) (kf : ¬ x < y → WF M E Po w0 q2 L st w k n) : WF M E Po w0 pc L (.int y :: .int x :: st) w k n := by
  subst hq; exact r_of2 (fun _ _ _ _ _ _ _ _ _ _ _ _ _ _ _ _ hx hb kt kf => lv_icmp_lt hx hb hd ht kt kf) kt kf
theorem r_icmp_ge {q2 : Nat} {off : Int} {x y : Int32} (hd : decode (mC M) pc = .ok (.if_icmp .ge off, 3)) (ht : (pc : Int) + off = (q : Int)) (hq : pc + 3 = q2) (kt : y ≤ x → WF M E Po w0 q L st w k n) (kf : ¬ y ≤ x → WF M E Po w0 q2 L st w k n) : WF M E Po w0 pc L (.int y :: .int x :: st) w k n := by
  subst hq; exact r_of2 (fun _ _ _ _ _ _ _ _ _ _ _ _ _ _ _ _ hx hb kt kf => lv_icmp_ge hx hb hd ht kt kf) kt kf
theorem r_icmp_gt {q2 : Nat} {off : Int} {x y : Int32} (hd : decode (mC M) pc = .ok (.if_icmp .gt off, 3)) (ht : (pc : Int) + off = (q : Int)) (hq : pc + 3 = q2) (kt : y < x → WF M E Po w0 q L st w k n) (kf : ¬ y < x → WF M E Po w0 q2 L st w k n) : WF M E Po w0 pc L (.int y :: .int x :: st) w k n := by
  subst hq; exact r_of2 (fun _ _ _ _ _ _ _ _ _ _ _ _ _ _ _ _ hx hb kt kf => lv_icmp_gt hx hb hd ht kt kf) kt kf
theorem r_icmp_le {q2 : Nat} {off : Int} {x y : Int32} (hd : decode (mC M) pc = .ok (.if_icmp .le off, 3)) (ht : (pc : Int) + off = (q : Int)) (hq : pc + 3 = q2) (kt : x ≤ y → WF M E Po w0 q L st w k n) (kf : ¬ x ≤ y → WF M E Po w0 q2 L st w k n) : WF M E Po w0 pc L (.int y :: .int x :: st) w k n := by
  subst hq; exact r_of2 (fun _ _ _ _ _ _ _ _ _ _ _ _ _ _ _ _ hx hb kt kf => lv_icmp_le hx hb hd ht kt kf) kt kf
theorem r_ifnull {x : Nat} {off : Int} (hd : decode (mC M) pc = .ok (.ifnull off, 3))  (hq : pc + 3 = q) (kk : WF M E Po w0 q L (st) w k n) : WF M E Po w0 pc L (.ref x :: st) w k n := by
  subst hq; exact r_of (fun _ _ _ _ _ _ _ _ _ _ _ _ _ _ _ _ hx hb hl k => lv_ifnull hx hb hd k) kk
theorem r_ifnonnullN {off : Int} (hd : decode (mC M) pc = .ok (.ifnonnull off, 3))  (hq : pc + 3 = q) (kk : WF M E Po w0 q L (st) w k n) : WF M E Po w0 pc L (.null :: st) w k n := by
  subst hq; exact r_of (fun _ _ _ _ _ _ _ _ _ _ _ _ _ _ _ _ hx hb hl k => lv_ifnonnullN hx hb hd k) kk
theorem r_ifnonnull {x : Nat} {off : Int} (hd : decode (mC M) pc = .ok (.ifnonnull off, 3)) (ht : (pc : Int) + off = (q : Int)) (kk : WF M E Po w0 q L st w k n) : WF M E Po w0 pc L (.ref x :: st) w k n := r_of (fun _ _ _ _ _ _ _ _ _ _ _ _ _ _ _ _ hx hb hl k => lv_ifnonnull hx hb hd ht k) kk
theorem r_ifnullN {off : Int} (hd : decode (mC M) pc = .ok (.ifnull off, 3)) (ht : (pc : Int) + off = (q : Int)) (kk : WF M E Po w0 q L st w k n) : WF M E Po w0 pc L (.null :: st) w k n := r_of (fun _ _ _ _ _ _ _ _ _ _ _ _ _ _ _ _ hx hb hl k => lv_ifnullN hx hb hd ht k) kk
theorem r_tableIn {dflt lo hi : Int} {offs : Array Int} {len : Nat} {x : Int32} {off : Int} (hd : decode (mC M) pc = .ok (.tableswitch dflt lo hi offs, len)) (h1 : ¬ x.toInt < lo) (h2 : ¬ hi < x.toInt) (ho : offs[(x.toInt - lo).toNat]? = some off) (ht : (pc : Int) + off = (q : Int)) (kk : WF M E Po w0 q L st w k n) : WF M E Po w0 pc L (.int x :: st) w k n := r_of (fun _ _ _ _ _ _ _ _ _ _ _ _ _ _ _ _ hx hb hl k => lv_tableIn hx hb hd h1 h2 ho ht k) kk
theorem r_tableOut {dflt lo hi : Int} {offs : Array Int} {len : Nat} {x : Int32} (hd : decode (mC M) pc = .ok (.tableswitch dflt lo hi offs, len)) (h : x.toInt < lo ∨ hi < x.toInt) (ht : (pc : Int) + dflt = (q : Int)) (kk : WF M E Po w0 q L st w k n) : WF M E Po w0 pc L (.int x :: st) w k n := r_of (fun _ _ _ _ _ _ _ _ _ _ _ _ _ _ _ _ hx hb hl k => lv_tableOut hx hb hd h ht k) kk
theorem r_istore_n {i : Nat} {j : Fin 4} {x : Int32} (hd : decode (mC M) pc = .ok (.istore_n j, 1)) (hj : (j : Nat) = i) (hi : i < mL M) (h1 : xOne L i) (hq : pc + 1 = q) (kk : WF M E Po w0 q (L.set i (some (.int x))) st w k n) : WF M E Po w0 pc L (.int x :: st) w k n := by
  subst hq
  intro p l e s m args below meth c H locs ls C hP hs hS hl
  exact lv_istore_n C.1 C.2.1 hd hj hl.has hi rfl (fun ls2 h2 => kk p l e s m args below meth c H locs ls2 C hP hs hS (xL.of h1 h2))
theorem r_istore {i : Nat} {x : Int32} (hd : decode (mC M) pc = .ok (.istore i, 2)) (hi : i < mL M) (h1 : xOne L i) (hq : pc + 2 = q) (kk : WF M E Po w0 q (L.set i (some (.int x))) st w k n) : WF M E Po w0 pc L (.int x :: st) w k n := by
  subst hq
  intro p l e s m args below meth c H locs ls C hP hs hS hl
  exact lv_istore C.1 C.2.1 hd hl.has hi rfl (fun ls2 h2 => kk p l e s m args below meth c H locs ls2 C hP hs hS (xL.of h1 h2))
theorem r_astore_n {i : Nat} {j : Fin 4} {x : Nat} (hd : decode (mC M) pc = .ok (.astore_n j, 1)) (hj : (j : Nat) = i) (hi : i < mL M) (h1 : xOne L i) (hq : pc + 1 = q) (kk : WF M E Po w0 q (L.set i (some (.ref x))) st w k n) : WF M E Po w0 pc L (.ref x :: st) w k n := by
  subst hq
  intro p l e s m args below meth c H locs ls C hP hs hS hl
  exact lv_astore_n C.1 C.2.1 hd hj hl.has hi rfl (fun ls2 h2 => kk p l e s m args below meth c H locs ls2 C hP hs hS (xL.of h1 h2))
theorem r_astore {i : Nat} {x : Nat} (hd : decode (mC M) pc = .ok (.astore i, 2)) (hi : i < mL M) (h1 : xOne L i) (hq : pc + 2 = q) (kk : WF M E Po w0 q (L.set i (some (.ref x))) st w k n) : WF M E Po w0 pc L (.ref x :: st) w k n := by
  subst hq
  intro p l e s m args below meth c H locs ls C hP hs hS hl
  exact lv_astore C.1 C.2.1 hd hl.has hi rfl (fun ls2 h2 => kk p l e s m args below meth c H locs ls2 C hP hs hS (xL.of h1 h2))
theorem r_astore_nN {i : Nat} {j : Fin 4}  (hd : decode (mC M) pc = .ok (.astore_n j, 1)) (hj : (j : Nat) = i) (hi : i < mL M) (h1 : xOne L i) (hq : pc + 1 = q) (kk : WF M E Po w0 q (L.set i (some (.null))) st w k n) : WF M E Po w0 pc L (.null :: st) w k n := by
  subst hq
  intro p l e s m args below meth c H locs ls C hP hs hS hl
  exact lv_astore_nN C.1 C.2.1 hd hj hl.has hi rfl (fun ls2 h2 => kk p l e s m args below meth c H locs ls2 C hP hs hS (xL.of h1 h2))
theorem r_astoreN {i : Nat}  (hd : decode (mC M) pc = .ok (.astore i, 2)) (hi : i < mL M) (h1 : xOne L i) (hq : pc + 2 = q) (kk : WF M E Po w0 q (L.set i (some (.null))) st w k n) : WF M E Po w0 pc L (.null :: st) w k n := by
  subst hq
  intro p l e s m args below meth c H locs ls C hP hs hS hl
  exact lv_astoreN C.1 C.2.1 hd hl.has hi rfl (fun ls2 h2 => kk p l e s m args below meth c H locs ls2 C hP hs hS (xL.of h1 h2))
theorem r_iinc {i : Nat} {d : Int} {x : Int32} (hd : decode (mC M) pc = .ok (.iinc i d, 3)) (hv : L[i]? = some (some (.int x))) (hi : i < mL M) (h1 : xOne L i) (hq : pc + 3 = q) (kk : WF M E Po w0 q (L.set i (some (.int (x + Int32.ofInt d)))) st w k n) : WF M E Po w0 pc L st w k n := by
  subst hq
  intro p l e s m args below meth c H locs ls C hP hs hS hl
  obtain ⟨j, hj⟩ := List.getElem?_of_mem (xL.mem hv)
  exact lv_iinc C.1 C.2.1 hd hl.has hj rfl hi rfl (fun ls2 h2 => kk p l e s m args below meth c H locs ls2 C hP hs hS (xL.of h1 h2))
end XRULES
end
section
/-! ===== 04.heap: fields, arrays, making, calls, ends ===== -/
def xFld (M : xM) (idx ci kf : Nat) (fin : Bool) (ty : FieldType) : Prop :=
  ∃ (C : String) (T : u_T) (N : Nat) (tyf : Nat → FieldType), vwCl[ci]? = some (C, T, N) ∧ kf < N ∧ (∀ w ∈ u_ws C T N, w ∈ mW M) ∧ Cond.fieldLink (mY M).cls idx (T kf).1 (T kf).2.1 (T kf).2.2.1 ∈ mW M ∧ (∀ j, j < N → parseFieldDescriptor (T j).2.2.1 = some (tyf j)) ∧ (∀ a, a < N → ∀ b, b < N → a ≠ b → (T a).2.1 ≠ (T b).2.1) ∧ tyf kf = ty ∧ (T kf).2.2.2 = fin ∧ (T kf).1 = C
theorem xP.one {E : xE} {w : xW} {H : Heap} {a : Nat} {e : va_E} (h : xP E w H) (hw : w.1 a = some e) : va_P E.1.1 vwCl [(a, e)] H := by
  intro k q hq
  have hz : k < 1 := (List.getElem?_eq_some_iff.mp hq).1
  rw [show k = 0 by omega] at hq
  cases hq
  exact h.1 a e hw
theorem xP.lt {E : xE} {w : xW} {H : Heap} {a : Nat} (h : xP E w H) (hw : w.1 a ≠ none) : a < H.size := by
  cases he : w.1 a with
  | none => exact absurd he hw
  | some e => exact (h.1 a e he).lt
section XHEAP
variable {M M2 : xM} {E : xE} {Po : xPo} {w0 w : xW} {pc q : Nat} {L : List (Option Value)} {st : List Value} {k n : Nat}
theorem xsome {a : Nat} {e : va_E} (hw : w.1 a = some e) : w.1 a ≠ none := by rw [hw]; exact fun h => nomatch h
theorem r_getfield {idx ci kf a : Nat} {fin : Bool} {ty : FieldType} {fs : List Value} {v : Value} (hd : decode (mC M) pc = .ok (.getfield idx, 3)) (F : xFld M idx ci kf fin ty) (hw : w.1 a = some (.inr (ci, fs))) (hv : fs[kf]? = some v) (hq : pc + 3 = q)
    (kk : WF M E Po w0 q L (v :: st) w k n) : WF M E Po w0 pc L (.ref a :: st) w k n := by
  subst hq
  intro p l e s m args below meth c H locs ls C hP hs hS hl
  obtain ⟨Cn, T, N, tyf, h1, h2, h3, h4, h5, h6, h7, h8, h9⟩ := F
  obtain ⟨c1, c2, c3, c4, c5, c6, c7, c8, c9, c10, c11, c12⟩ := id C
  exact va_get c1 c2 c5 h3 c6 c11.1 (hP.one hw) 0 rfl h1 kf h2 (c5 _ h4) (fun x hx => hx) hv hd (kk p l e s m args below meth c H locs ls C hP hs hS hl)
theorem r_putfield {idx ci kf a : Nat} {ty : FieldType} {fs : List Value} {v : Value} (hd : decode (mC M) pc = .ok (.putfield idx, 3)) (F : xFld M idx ci kf false ty) (hw : w.1 a = some (.inr (ci, fs))) (hn : narrow ty v = v) (hfit : fits ty v = true) (hlen : kf < fs.length) (hq : pc + 3 = q)
    (kk : WF M E Po w0 q L st (xset w a (.inr (ci, fs.set kf v))) k n) : WF M E Po w0 pc L (v :: .ref a :: st) w k n := by
  subst hq
  intro p l e s m args below meth c H locs ls C hP hs hS hl
  obtain ⟨Cn, T, N, tyf, hc, hk, hin, hlk, hty, hnm, hd9, hfin, h9⟩ := F
  obtain ⟨c1, c2, c3, c4, hts, hown, c7, c8, c9, c10, c11, c12⟩ := id C
  have hK := c11.1
  have hap := va_apart (own := (mY M).cls) hts hin tyf hty hnm hK hc
  obtain ⟨r, h1, cell, q1, q2, q3, q4⟩ := hP.1 a _ hw
  have hr : r = (Cn, T, N) := Option.some.inj (h1.symm.trans hc)
  subst hr
  obtain ⟨hSl, hfc, kC, hkC, hkind⟩ := hK.1 ci _ hc
  obtain ⟨cf, kf9, fi, f, hi, hsl⟩ := hSl kf hk
  have hlay := hts _ (hin _ (u_in_lay hk))
  unfold u_lay at hlay
  rw [if_neg (by rw [hfin]; decide)] at hlay
  have hst := (u_facts hfc hkC (u_lays hts hin hk) hi).1
  have h6 := u_store hfc hkC hkind hlay hi (by rw [hty kf hk, hd9]) hn hfit
  refine W.putK c1 c2 (f := f) ⟨hown, hts _ hlk, ⟨_, _, _, hi⟩, hst⟩ (by rw [q2]; exact h6) q1 q3 (by rw [hsl]; exact k2_hasslot (q4 kf hk)) rfl rfl hd fun H' e1 e2 e3 => ?_
  rw [hsl] at e1 ⊢
  have ha := hs a (xsome hw)
  exact kk p l e s m args below meth c H' _ ls C (hP.put ⟨_, hc, t_OB.to (V := updV (vp_V fs) kf v) ⟨_, e1, q2, q3, t_set q4 hap hk v⟩ (fun j _ => vp_updV_set hlen v j)⟩ e3 e2) (hs.put ha) (hS.put e2 e3 ha) hl
theorem r_putfieldF {idx ci kf a : Nat} {ty : FieldType} {fs : List Value} {v : Value} (hd : decode (mC M) pc = .ok (.putfield idx, 3)) (F : xFld M idx ci kf true ty) (hin2 : (mY M).name = "<init>") (hown2 : (vwCl[ci]?).map (fun r => r.1) = some (mY M).cls) (hw : w.1 a = some (.inr (ci, fs))) (hn : narrow ty v = v) (hfit : fits ty v = true) (hlen : kf < fs.length) (hq : pc + 3 = q)
    (kk : WF M E Po w0 q L st (xset w a (.inr (ci, fs.set kf v))) k n) : WF M E Po w0 pc L (v :: .ref a :: st) w k n := by
  subst hq
  intro p l e s m args below meth c H locs ls C hP hs hS hl
  obtain ⟨Cn, T, N, tyf, hc, hk, hin, hlk, hty, hnm, hd9, hfin, h9⟩ := F
  obtain ⟨c1, c2, c3, c4, hts, hown, c7, c8, c9, c10, c11, c12⟩ := id C
  have hdecl : (T kf).1 = (mY M).cls := by
    rw [hc] at hown2
    rw [h9]
    exact Option.some.inj hown2
  have hK := c11.1
  have hap := va_apart (own := (mY M).cls) hts hin tyf hty hnm hK hc
  obtain ⟨r, h1, cell, q1, q2, q3, q4⟩ := hP.1 a _ hw
  have hr : r = (Cn, T, N) := Option.some.inj (h1.symm.trans hc)
  subst hr
  obtain ⟨hSl, hfc, kC, hkC, hkind⟩ := hK.1 ci _ hc
  obtain ⟨cf, kf9, fi, f, hi, hsl⟩ := hSl kf hk
  have hlay := hts _ (hin _ (u_in_lay hk))
  unfold u_lay at hlay
  rw [if_pos hfin] at hlay
  have hst := (u_facts hfc hkC (u_lays hts hin hk) hi).1
  have hcf : m.cls = cf := by
    obtain ⟨_, _, c', _, _, _, -, -, hf', -, -, -, hown3, -⟩ := Cond.laysFinal_spec hlay
    have e1 : c' = cf := by have := hi.symm.trans hf'; simp at this; exact this.1.symm
    rw [hdecl] at hown3
    rw [← e1]; exact Option.some.inj (hown.symm.trans hown3)
  have h6 := u_fits hfc hkC hkind (Or.inr hlay) hi (by rw [hty kf hk, hd9]) hn hfit
  refine W.putFinK c1 c2 hown (hts _ hlk) hi hst hcf (c10.trans hin2) (by rw [q2]; exact h6) q1 q3 (by rw [hsl]; exact k2_hasslot (q4 kf hk)) rfl rfl hd fun H' e1 e2 e3 => ?_
  rw [hsl] at e1 ⊢
  have ha := hs a (xsome hw)
  exact kk p l e s m args below meth c H' _ ls C (hP.put ⟨_, hc, t_OB.to (V := updV (vp_V fs) kf v) ⟨_, e1, q2, q3, t_set q4 hap hk v⟩ (fun j _ => vp_updV_set hlen v j)⟩ e3 e2) (hs.put ha) (hS.put e2 e3 ha) hl
-- arrays: reading
theorem r_alen {a t0 : Nat} {cA : ClassId} {x : vp_A} {ty : FieldType} (hd : decode (mC M) pc = .ok (.arraylength, 1)) (ht : (xTys E)[t0]? = some (cA, ty)) (hw : w.1 a = some (.inl (cA, x))) (hq : pc + 1 = q) (kk : WF M E Po w0 q L (.int (Int32.ofNat x.1) :: st) w k n) : WF M E Po w0 pc L (.ref a :: st) w k n := by
  subst hq
  intro p l e s m args below meth c H locs ls C hP hs hS hl
  exact va_alen C.1 C.2.1 C.2.2.2.2.2.2.2.2.2.2.1.1 (hP.one hw) 0 t0 rfl ht rfl hd (kk p l e s m args below meth c H locs ls C hP hs hS hl)
theorem r_iaload {a N : Nat} {f : Nat → Int32} {i : Int32} (hd : decode (mC M) pc = .ok (.iaload, 1)) (hw : w.1 a = some (.inl (E.1.2 0, N, .inl f))) (hin : vp_in i N) (hq : pc + 1 = q) (kk : WF M E Po w0 q L (.int (f i.toNatClampNeg) :: st) w k n) : WF M E Po w0 pc L (.int i :: .ref a :: st) w k n := by
  subst hq
  intro p l e s m args below meth c H locs ls C hP hs hS hl
  exact va_iald C.1 C.2.1 C.2.2.2.2.2.2.2.2.2.2.1.1 (hP.one hw) 0 0 rfl rfl hin hd (kk p l e s m args below meth c H locs ls C hP hs hS hl)
theorem r_caload {a N : Nat} {f : Nat → Int32} {i : Int32} (hd : decode (mC M) pc = .ok (.caload, 1)) (hw : w.1 a = some (.inl (E.1.2 1, N, .inl f))) (hin : vp_in i N) (hq : pc + 1 = q) (kk : WF M E Po w0 q L (.int (f i.toNatClampNeg) :: st) w k n) : WF M E Po w0 pc L (.int i :: .ref a :: st) w k n := by
  subst hq
  intro p l e s m args below meth c H locs ls C hP hs hS hl
  exact va_cald C.1 C.2.1 C.2.2.2.2.2.2.2.2.2.2.1.1 (hP.one hw) 0 1 rfl rfl hin hd (kk p l e s m args below meth c H locs ls C hP hs hS hl)
theorem r_laload {a N : Nat} {f : Nat → Int64} {i : Int32} (hd : decode (mC M) pc = .ok (.laload, 1)) (hw : w.1 a = some (.inl (E.1.2 8, N, .inr (.inl f)))) (hin : vp_in i N) (hq : pc + 1 = q) (kk : WF M E Po w0 q L (.long (f i.toNatClampNeg) :: st) w k n) : WF M E Po w0 pc L (.int i :: .ref a :: st) w k n := by
  subst hq
  intro p l e s m args below meth c H locs ls C hP hs hS hl
  exact va_lald C.1 C.2.1 C.2.2.2.2.2.2.2.2.2.2.1.1 (hP.one hw) 0 8 rfl rfl hin hd (kk p l e s m args below meth c H locs ls C hP hs hS hl)
theorem r_daload {a N : Nat} {f : Nat → UInt64} {i : Int32} (hd : decode (mC M) pc = .ok (.daload, 1)) (hw : w.1 a = some (.inl (E.1.2 9, N, .inr (.inr (.inr (.inl f)))))) (hin : vp_in i N) (hq : pc + 1 = q) (kk : WF M E Po w0 q L (.double (f i.toNatClampNeg) :: st) w k n) : WF M E Po w0 pc L (.int i :: .ref a :: st) w k n := by
  subst hq
  intro p l e s m args below meth c H locs ls C hP hs hS hl
  exact va_dald C.1 C.2.1 C.2.2.2.2.2.2.2.2.2.2.1.1 (hP.one hw) 0 9 rfl rfl hin hd (kk p l e s m args below meth c H locs ls C hP hs hS hl)
theorem r_aaload {a N t0 : Nat} {cA : ClassId} {Cn : String} {f : Nat → Option Nat} {i : Int32} (hd : decode (mC M) pc = .ok (.aaload, 1)) (ht : (xTys E)[t0]? = some (cA, .object Cn)) (hw : w.1 a = some (.inl (cA, N, .inr (.inr (.inr (.inr f)))))) (hin : vp_in i N) (hq : pc + 1 = q) (kk : WF M E Po w0 q L (va_rf (f i.toNatClampNeg) :: st) w k n) : WF M E Po w0 pc L (.int i :: .ref a :: st) w k n := by
  subst hq
  intro p l e s m args below meth c H locs ls C hP hs hS hl
  exact va_aldq C.1 C.2.1 C.2.2.2.2.2.2.2.2.2.2.1.1 (hP.one hw) 0 t0 rfl ht hin hd (kk p l e s m args below meth c H locs ls C hP hs hS hl)
-- arrays: writing
theorem r_iastore {a N : Nat} {f : Nat → Int32} {i x : Int32} (hd : decode (mC M) pc = .ok (.iastore, 1)) (hw : w.1 a = some (.inl (E.1.2 0, N, .inl f))) (hin : vp_in i N) (hq : pc + 1 = q)
    (kk : WF M E Po w0 q L st (xset w a (.inl (E.1.2 0, N, .inl (upd f i.toNatClampNeg x)))) k n) : WF M E Po w0 pc L (.int x :: .int i :: .ref a :: st) w k n := by
  subst hq
  intro p l e s m args below meth c H locs ls C hP hs hS hl
  have hK := C.2.2.2.2.2.2.2.2.2.2.1.1
  have ha := hs a (xsome hw)
  refine W.iast C.1 C.2.1 (hP.1 a _ hw) ((hK.2 0 (E.1.2 0, .int) rfl).1 N (fun j => .int (f j))) (fun z => by cases z) (by show ¬ (i < 0 ∨ (arrV _ _ _).slots.size ≤ _); rw [arrV_size]; exact hin) rfl rfl hd fun H1 e9 z oq => ?_
  refine kk p l e s m args below meth c H1 _ ls C (hP.put ?_ oq z) (hs.put ha) (hS.put z oq ha) hl
  show H1[a]? = some (vp_cell _ _)
  rw [e9, vp_cell_i, vp_cell_i, arrV_store]
  congr 2
  funext j
  by_cases hj : j = i.toNatClampNeg
  · subst hj; simp [updV, upd]
  · simp [updV, upd, hj]
theorem r_castore {a N : Nat} {f : Nat → Int32} {i x : Int32} (hd : decode (mC M) pc = .ok (.castore, 1)) (hw : w.1 a = some (.inl (E.1.2 1, N, .inl f))) (hin : vp_in i N) (hq : pc + 1 = q)
    (kk : WF M E Po w0 q L st (xset w a (.inl (E.1.2 1, N, .inl (upd f i.toNatClampNeg (vp_nar .char x))))) k n) : WF M E Po w0 pc L (.int x :: .int i :: .ref a :: st) w k n := by
  subst hq
  intro p l e s m args below meth c H locs ls C hP hs hS hl
  have hK := C.2.2.2.2.2.2.2.2.2.2.1.1
  have ha := hs a (xsome hw)
  refine W.cast C.1 C.2.1 (hP.1 a _ hw) ((hK.2 1 (E.1.2 1, .char) rfl).1 N (fun j => .int (f j))) (fun z => by cases z) (by show ¬ (i < 0 ∨ (arrV _ _ _).slots.size ≤ _); rw [arrV_size]; exact hin) rfl rfl hd fun H1 e9 z oq => ?_
  refine kk p l e s m args below meth c H1 _ ls C (hP.put ?_ oq z) (hs.put ha) (hS.put z oq ha) hl
  show H1[a]? = some (vp_cell _ _)
  rw [e9, vp_cell_i, vp_cell_i, arrV_store]
  congr 2
  funext j
  by_cases hj : j = i.toNatClampNeg
  · subst hj
    simp [updV, upd, vp_nar, narrow]
  · simp [updV, upd, hj]
theorem r_lastore {a N : Nat} {f : Nat → Int64} {i : Int32} {x : Int64} (hd : decode (mC M) pc = .ok (.lastore, 1)) (hw : w.1 a = some (.inl (E.1.2 8, N, .inr (.inl f)))) (hin : vp_in i N) (hq : pc + 1 = q)
    (kk : WF M E Po w0 q L st (xset w a (.inl (E.1.2 8, N, .inr (.inl (vp_updL f i.toNatClampNeg x))))) k n) : WF M E Po w0 pc L (.long x :: .int i :: .ref a :: st) w k n := by
  subst hq
  intro p l e s m args below meth c H locs ls C hP hs hS hl
  have hK := C.2.2.2.2.2.2.2.2.2.2.1.1
  have ha := hs a (xsome hw)
  refine W.last C.1 C.2.1 (hP.1 a _ hw) ((hK.2 8 (E.1.2 8, .long) rfl).1 N (fun j => .long (f j))) (fun z => by cases z) (by show ¬ (i < 0 ∨ (arrV _ _ _).slots.size ≤ _); rw [arrV_size]; exact hin) rfl rfl hd fun H1 e9 z oq => ?_
  refine kk p l e s m args below meth c H1 _ ls C (hP.put ?_ oq z) (hs.put ha) (hS.put z oq ha) hl
  show H1[a]? = some (vp_cell _ _)
  rw [e9, vp_cell_l, vp_cell_l, arrV_store]
  congr 2
  funext j
  by_cases hj : j = i.toNatClampNeg
  · subst hj; simp [updV, vp_updL]
  · simp [updV, vp_updL, hj]
theorem r_dastore {a N : Nat} {f : Nat → UInt64} {i : Int32} {x : UInt64} (hd : decode (mC M) pc = .ok (.dastore, 1)) (hw : w.1 a = some (.inl (E.1.2 9, N, .inr (.inr (.inr (.inl f)))))) (hin : vp_in i N) (hq : pc + 1 = q)
    (kk : WF M E Po w0 q L st (xset w a (.inl (E.1.2 9, N, .inr (.inr (.inr (.inl (vf_upd f i.toNatClampNeg x))))))) k n) : WF M E Po w0 pc L (.double x :: .int i :: .ref a :: st) w k n := by
  subst hq
  intro p l e s m args below meth c H locs ls C hP hs hS hl
  have hK := C.2.2.2.2.2.2.2.2.2.2.1.1
  have ha := hs a (xsome hw)
  refine W.dast C.1 C.2.1 (hP.1 a _ hw) ((hK.2 9 (E.1.2 9, .double) rfl).1 N (fun j => .double (f j))) (fun z => by cases z) (by show ¬ (i < 0 ∨ (arrV _ _ _).slots.size ≤ _); rw [arrV_size]; exact hin) rfl rfl hd fun H1 e9 z oq => ?_
  refine kk p l e s m args below meth c H1 _ ls C (hP.put ?_ oq z) (hs.put ha) (hS.put z oq ha) hl
  show H1[a]? = some (vp_cell _ _)
  rw [e9, vp_cell_d, vp_cell_d, arrV_store]
  congr 2
  funext j
  by_cases hj : j = i.toNatClampNeg
  · subst hj; simp [updV, vf_upd]
  · simp [updV, vf_upd, hj]
-- ends
theorem xEnd {v : Option Value} {s t : State} {H : Heap} {locs : List Loc} {args : Array Value} (hpo : Po (.inl v) w) (hP : xP E w H) (hs : xSub w (xA w0)) (hS : va_S (xA w0) s.heap H locs) (ht : t.heap = H) : xQ E Po (xA w0) args s (.returned v) t :=
  ⟨⟨v, w, rfl, hpo, by rw [ht]; exact hP, hs⟩, hS.F ht⟩
theorem r_iret {v : Int32} (hd : decode (mC M) pc = .ok (.ireturn, 1)) (hT : mT M = some .int) (hk : k ≤ mK M) (hn : n ≤ mN M) (hpo : Po (.inl (some (.int v))) w) : WF M E Po w0 pc L [.int v] w k n := by
  intro p l e s m args below meth c H locs ls C hP hs hS hl
  obtain ⟨c1, c2, c3, c4, c5, c6, c7, c8, c9, c10, c11, c12⟩ := C
  exact W.widen hk hn (vx_ret (W.iret c1 c2 (c3.trans hT) (fun t ht hW => xEnd hpo hP hs hS ht) hS.2.2 hd c7))
theorem r_zret {v : Int32} {ty : FieldType} (hd : decode (mC M) pc = .ok (.ireturn, 1)) (hT : mT M = some ty) (hnar : narrow ty (.int v) = .int v) (hk : k ≤ mK M) (hn : n ≤ mN M) (hpo : Po (.inl (some (.int v))) w) : WF M E Po w0 pc L [.int v] w k n := by
  intro p l e s m args below meth c H locs ls C hP hs hS hl
  obtain ⟨c1, c2, c3, c4, c5, c6, c7, c8, c9, c10, c11, c12⟩ := C
  exact W.widen hk hn (vx_ret (W.zret c1 c2 (c3.trans hT) hnar (fun t ht hW => xEnd hpo hP hs hS ht) hS.2.2 hd c7))
theorem r_vret (hd : decode (mC M) pc = .ok (.return_, 1)) (hT : mT M = none) (hk : k ≤ mK M) (hn : n ≤ mN M) (hpo : Po (.inl none) w) : WF M E Po w0 pc L [] w k n := by
  intro p l e s m args below meth c H locs ls C hP hs hS hl
  obtain ⟨c1, c2, c3, c4, c5, c6, c7, c8, c9, c10, c11, c12⟩ := C
  exact W.widen hk hn (vx_ret (W.vret c1 c2 (c3.trans hT) (fun t ht hW => xEnd hpo hP hs hS ht) hS.2.2 hd c7))
theorem r_aret {v : Value} {Cn : String} (hd : decode (mC M) pc = .ok (.areturn, 1)) (hT : mT M = some (.object Cn)) (hv : v = .null ∨ ∃ a, v = .ref a) (hk : k ≤ mK M) (hn : n ≤ mN M) (hpo : Po (.inl (some v)) w) : WF M E Po w0 pc L [v] w k n := by
  intro p l e s m args below meth c H locs ls C hP hs hS hl
  obtain ⟨c1, c2, c3, c4, c5, c6, c7, c8, c9, c10, c11, c12⟩ := C
  exact W.widen hk hn (vx_ret (W.aret c1 c2 (c3.trans hT) (Or.inl ⟨_, rfl⟩) hv (fun t ht hW => xEnd hpo hP hs hS ht) hS.2.2 hd c7))
theorem r_dret {v : UInt64} (hd : decode (mC M) pc = .ok (.dreturn, 1)) (hT : mT M = some .double) (hk : k ≤ mK M) (hn : n ≤ mN M) (hpo : Po (.inl (some (.double v))) w) : WF M E Po w0 pc L [.double v] w k n := by
  intro p l e s m args below meth c H locs ls C hP hs hS hl
  obtain ⟨c1, c2, c3, c4, c5, c6, c7, c8, c9, c10, c11, c12⟩ := C
  exact W.widen hk hn (vx_ret (W.dret c1 c2 (c3.trans hT) (fun t ht hW => xEnd hpo hP hs hS ht) hS.2.2 hd c7))
theorem r_fret {v : UInt32} (hd : decode (mC M) pc = .ok (.freturn, 1)) (hT : mT M = some .float) (hk : k ≤ mK M) (hn : n ≤ mN M) (hpo : Po (.inl (some (.float v))) w) : WF M E Po w0 pc L [.float v] w k n := by
  intro p l e s m args below meth c H locs ls C hP hs hS hl
  obtain ⟨c1, c2, c3, c4, c5, c6, c7, c8, c9, c10, c11, c12⟩ := C
  exact W.widen hk hn (vx_ret (W.fret c1 c2 (c3.trans hT) (fun t ht hW => xEnd hpo hP hs hS ht) hS.2.2 hd c7))
end XHEAP
end
section
/-! ===== 05.calls: contracts, calls, throws, making ===== -/
section XCALLS
variable {p : Program} {l : Launch} {e : Env} {R : Room} {s : State} {m : MethodId} {args : Array Value} {below : List Frame} {meth : Method} {c : Code} {H : Heap} {locs : List Loc} {cells slots : Nat} {Q : State → Prop}
variable {mc ms : Nat} {A0 A1 : Nat → Prop} {H0 : Heap} {a : Array Value} {pc : Nat} {ls : Array Slot} {st0 rest : List Value}
theorem x_call {E : xE} {Po : xPo} (hr : vx_Run p l e R s m args below meth c H locs cells slots mc ms (F0 m pc ls st0) rest (xQ E Po A1 a) (xX E Po A1) A1) (hS : va_S A0 H0 H locs) (hA : ∀ q, A1 q → A0 q)
    (kx : ∀ (X : String) (ce : Cell) (q9 : Addr) (u : xW) (H1 : Heap) (locs1 : List Loc), Po (.inr X) u → xP E u H1 → xSub u A1 → va_S A0 H0 H1 locs1 → H1[q9]? = some ce → ce.vm = .none → s.vm.findClass X = some ce.cls → vx_W p l e R s m args below meth c H1 locs1 (cells + mc) (slots + ms) Q (F0 m pc ls rest) q9)
    (kk : ∀ (v : Option Value) (u : xW) (H1 : Heap) (locs1 : List Loc), Po (.inl v) u → xP E u H1 → xSub u A1 → va_S A0 H0 H1 locs1 → W p l e R s m args below meth c H1 locs1 (cells + mc) (slots + ms) Q (F0 m (pc + 3) ls (v.toList ++ rest))) : W p l e R s m args below meth c H locs cells slots Q (F0 m pc ls st0) := by
  intro T hT X
  rcases hr T hT X with ⟨v, st₀, t, T', L, h0, X', hL, e1, e2, ⟨⟨v2, u, hv, hp, hb, hsub⟩, hF⟩, st⟩ | ⟨q, st₀, t, T', L, Xn, ce, h0, X', hL, e1, e2, ⟨⟨u, hp, hb, hsub⟩, hF⟩, hce, hcv, hcl, st⟩
  · cases hv
    obtain ⟨k1, k2, k3⟩ := vx_keep h0 e1 hS (fun q _ h => hA q h) hA hL hF
    obtain ⟨t2, a1, b1⟩ := kk v u T'.heap (locs ++ L) hp (by rw [e1]; exact hb) hsub k3 T' rfl X'
    exact ⟨t2, st t2 a1, b1⟩
  · obtain ⟨k1, k2, k3⟩ := vx_keep h0 e1 hS (fun q _ h => hA q h) hA hL hF
    obtain ⟨t2, a1, b1⟩ := kx Xn ce q u T'.heap (locs ++ L) hp (by rw [e1]; exact hb) hsub k3 (by rw [e1]; exact hce) hcv hcl T' rfl X'
    exact ⟨t2, st.trans a1, b1⟩
end XCALLS
theorem xPc_blind {E : xE} {as : List Value} {w : xW} : FrameBlind (xPc E as w) := by
  intro a U g mk h
  obtain ⟨h1, h2, h3, h4⟩ := h
  exact ⟨h1, h2, va_K.moved (u := U) (U := U.calling g mk a) (Vm.Alike.refl U.vm) h3, xC.at (u := U) (State.WarmedH.refl U) h4 (fun _ _ _ => rfl) (fun _ h => h)⟩
theorem xA_sub {w : xW} {A : Nat → Prop} (hs : xSub w A) (hA : ∀ q, w.2 ≤ q → A q) : ∀ q, xA w q → A q := fun q h => h.elim (hs q) (hA q)
/-- a world's start for a callee, out of the caller's -/
theorem xPc_at {M : xM} {E : xE} {as : List Value} {w0 w : xW} {p : Program} {l : Launch} {s : State} {m : MethodId} {args : Array Value} {meth : Method} {c : Code} {H : Heap} {locs : List Loc} (C : xCtx M E w0 p l s m args meth c) (hP : xP E w H) (hs : xSub w (xA w0)) (hS : va_S (xA w0) s.heap H locs) :
    (∀ q, xA w q → xA w0 q) ∧ ∀ U : State, U.heap = H → s.WarmedH U.vm → xPc E as w as.toArray U := by
  obtain ⟨c1, c2, c3, c4, c5, c6, c7, c8, c9, c10, c11, c12⟩ := C
  have hA : ∀ q, xA w q → xA w0 q := xA_sub hs (fun q hq => Or.inr (by
    have h1 := hS.1
    have h2 := hP.2
    omega))
  refine ⟨hA, fun U hU hW => ⟨rfl, by rw [hU]; exact hP, va_K.moved hW.alike c11.1, ?_⟩⟩
  rw [hU]
  exact xC.at hW c11.2 hS.2.1 hA
theorem Ct.mono {M : xM} {E : xE} {as : List Value} {w : xW} {Po Po2 : xPo} (h : Ct M E as w Po) (hm : ∀ r u, Po r u → Po2 r u) : Ct M E as w Po2 := by
  intro l hl p e ha hc hk s mm args below hf hap hP hK
  obtain ⟨n, o, h1, h2, h3, h4⟩ := h l hl p e ha hc hk s mm args below hf hap hP hK
  refine ⟨n, o, h1, h2, h3, ?_⟩
  rcases h4 with ⟨⟨⟨v, u, a1, a2, a3⟩, a4⟩, a5⟩ | ⟨q, rfl, Xn, ce, L, ⟨⟨u, a1, a2⟩, a3⟩, a4⟩
  · exact Or.inl ⟨⟨⟨v, u, a1, hm _ _ a2, a3⟩, a4⟩, a5⟩
  · exact Or.inr ⟨q, rfl, Xn, ce, L, ⟨⟨u, hm _ _ a1, a2⟩, a3⟩, a4⟩
/-- a method that never throws, as a plain contract -/
theorem Ct.met {M : xM} {E : xE} {as : List Value} {w : xW} {Po : xPo} (h : Ct M E as w Po) (hx : ∀ X u, ¬ Po (.inr X) u) {l : Launch} (hl : l.stackTraces = false) : Met l (mY M) (mW M) (mR M) (xPc E as w) (xQ E Po (xA w)) (mK M) (mN M) (xA w) := by
  intro p e ha hc hk s mm args below hf hap hP hK
  obtain ⟨n, o, h1, h2, h3, h4⟩ := h l hl p e ha hc hk s mm args below hf hap hP hK
  refine ⟨n, o, h1, h2, h3, ?_⟩
  rcases h4 with h5 | ⟨q, rfl, Xn, ce, L, ⟨⟨u, a1, a2⟩, a3⟩, a4⟩
  · exact h5
  · exact absurd a1 (hx _ _)
/-- static facts of a call's site -/
def xSv (M M2 : xM) (idx nn : Nat) : Prop := ∀ (s : State) (args : Array Value), (∀ w ∈ mW M, w.before args s = true) → CallW (mR M) s args (mY M).cls (mY M2).cls idx (mY M2) (mC M2) (mL M2) (mT M2) (mW M2) (mR M2) (mK M2) (mN M2) nn
def xSs (M M2 : xM) (idx nn : Nat) : Prop := ∀ (s : State) (args : Array Value), (∀ w ∈ mW M, w.before args s = true) → CallB (mR M) s args (mY M).cls idx (mY M2) (mC M2) (mL M2) (mT M2) (mW M2) (mR M2) (mK M2) (mN M2) nn ∧ (Cond.static (mY M2)).before args s = true
def xSi (M M2 : xM) (idx nn : Nat) : Prop := ∀ (s : State) (args : Array Value), (∀ w ∈ mW M, w.before args s = true) → CallB (mR M) s args (mY M).cls idx (mY M2) (mC M2) (mL M2) none (mW M2) (mR M2) (mK M2) (mN M2) nn ∧ (mY M2).name = "<init>" ∧ (Cond.instanceMethod (mY M2)).before args s = true
/-- what a call's end means for its caller -/
def xNext (M : xM) (E : xE) (Po : xPo) (w0 : xW) (q : Nat) (L : List (Option Value)) (rest : List Value) (k n : Nat) : xPo := fun r u => match r with
  | .inl v => WF M E Po w0 q L (v.toList ++ rest) u k n
  | .inr X => Po (.inr X) u
section XSITES
variable {M M2 : xM} {E : xE} {Po : xPo} {w0 w : xW} {pc q : Nat} {L : List (Option Value)} {k n k2 n2 : Nat} {idx nn b ci : Nat} {As rest st : List Value} {fs : List Value}
theorem x_out (hH : mH M = []) {p : Program} {l : Launch} {e : Env} {s : State} {m : MethodId} {args : Array Value} {below : List Frame} {meth : Method} {c : Code} {H1 : Heap} {locs1 : List Loc} {ls : Array Slot} {X : String} {ce : Cell} {q9 : Addr} {u : xW}
    (C : xCtx M E w0 p l s m args meth c) (hk : k2 ≤ mK M) (hn : n2 ≤ mN M) (hp : Po (.inr X) u) (hP1 : xP E u H1) (hsub : xSub u (xA w0)) (hS1 : va_S (xA w0) s.heap H1 locs1) (hc : H1[q9]? = some ce) (hv : ce.vm = .none) (hcl : s.vm.findClass X = some ce.cls) :
    vx_W p l e (mR M) s m args below meth c H1 locs1 k2 n2 (vx_MQ below (xQ E Po (xA w0)) (xX E Po (xA w0)) args s (mK M) (mN M) (xA w0)) (F0 m pc ls rest) q9 := by
  obtain ⟨c1, c2, c3, c4, c5, c6, c7, c8, c9, c10, c11, c12⟩ := C
  refine vx_out (fun x hx => ?_) c7 hc hv hcl (fun t ht hal => ⟨⟨u, hp, by rw [ht]; exact hP1, hsub⟩, hS1.F ht⟩) hS1.2.2 hk hn
  rw [c9, hH] at hx
  exact absurd hx List.not_mem_nil
theorem r_callV (hd : decode (mC M) pc = .ok (.invokevirtual idx, 3)) (sv : xSv M M2 idx nn) (hw : w.1 b = some (.inr (ci, fs))) (hc : (vwCl[ci]?).map (fun r => r.1) = some (mY M2).cls) (hH : mH M = []) (hn : As.length = nn) (hrm : (rest.map fun v => v.category).sum ≤ 8) (hq : pc + 3 = q)
    (hk : k + mK M2 = k2) (hn2 : n + mN M2 = n2) (hK : k2 ≤ mK M) (hN : n2 ≤ mN M) (hR : k2 ≤ (mR M).cells ∧ n2 ≤ (mR M).slots) (hst : As.reverse ++ .ref b :: rest = st)
    (hct : Ct M2 E (.ref b :: As) w (xNext M E Po w0 q L rest k2 n2)) : WF M E Po w0 pc L st w k n := by
  subst hq; subst hk; subst hn2; subst hst
  intro p l e s m args below meth c H locs ls C hP hs hS hl
  obtain ⟨hA, hpre⟩ := xPc_at (as := .ref b :: As) C hP hs hS
  obtain ⟨c1, c2, c3, c4, c5, c6, c7, c8, c9, c10, c11, c12⟩ := id C
  have hrecv : ∃ cellB : Cell, H[b]? = some cellB ∧ cellB.vm.isStatics = false ∧ s.vm.findClass (mY M2).cls = some cellB.cls := by
    obtain ⟨r, h1, cell, q1, q2, q3, q4⟩ := hP.1 b _ hw
    rw [h1] at hc
    exact ⟨cell, q1, by rw [q3]; rfl, by rw [q2, ← Option.some.inj hc]; exact (c11.1.1 ci r h1).2.1⟩
  refine x_call (vx_runV (n := nn) (As := As) (rest := rest) ⟨c1, c2, c4, c6, c5⟩ (hct l c8) (sv s args c5) ⟨xPc_blind, hrecv, fun U hU hW => hpre U hU hW⟩ rfl hn hl.1 rfl (lv_room hrm) hd hR) hS hA (fun X ce q9 u H1 locs1 hp hP1 hsub hS1 h1 h2 h3 => ?_) (fun v u H1 locs1 hp hP1 hsub hS1 => ?_)
  · exact x_out hH C hK hN hp hP1 (fun q h => hA q (hsub q h)) hS1 h1 h2 h3
  · exact hp p l e s m args below meth c H1 locs1 ls C hP1 (fun q h => hA q (hsub q h)) hS1 hl
theorem r_callS (hd : decode (mC M) pc = .ok (.invokestatic idx, 3)) (sv : xSs M M2 idx nn) (hH : mH M = []) (hn : As.length = nn) (hrm : (rest.map fun v => v.category).sum ≤ 8) (hq : pc + 3 = q)
    (hk : k + mK M2 = k2) (hn2 : n + mN M2 = n2) (hK : k2 ≤ mK M) (hN : n2 ≤ mN M) (hR : k2 ≤ (mR M).cells ∧ n2 ≤ (mR M).slots) (hst : As.reverse ++ rest = st)
    (hct : Ct M2 E As w (xNext M E Po w0 q L rest k2 n2)) : WF M E Po w0 pc L st w k n := by
  subst hq; subst hk; subst hn2; subst hst
  intro p l e s m args below meth c H locs ls C hP hs hS hl
  obtain ⟨hA, hpre⟩ := xPc_at (as := As) C hP hs hS
  obtain ⟨c1, c2, c3, c4, c5, c6, c7, c8, c9, c10, c11, c12⟩ := id C
  refine x_call (vx_runS (n := nn) (As := As) (rest := rest) ⟨c1, c2, c4, c6, c5⟩ (hct l c8) (sv s args c5) ⟨xPc_blind, fun U hU hW => hpre U hU hW⟩ rfl hn hl.1 rfl (lv_room hrm) hd hR) hS hA (fun X ce q9 u H1 locs1 hp hP1 hsub hS1 h1 h2 h3 => ?_) (fun v u H1 locs1 hp hP1 hsub hS1 => ?_)
  · exact x_out hH C hK hN hp hP1 (fun q h => hA q (hsub q h)) hS1 h1 h2 h3
  · exact hp p l e s m args below meth c H1 locs1 ls C hP1 (fun q h => hA q (hsub q h)) hS1 hl
end XSITES
/-- a contract out of a walk -/
theorem lv_args_at : ∀ (vs : List Value) (j : Nat), (∀ v ∈ vs, v.category = 1) → ∀ (i : Nat) (v : Value), vs[i]? = some v → (j + i, v) ∈ lv_args j vs
  | [], _, _, i, v, h => by simp at h
  | u :: vs, j, hc, i, v, h => by
    have hu : u.category = 1 := hc u List.mem_cons_self
    cases i with
    | zero =>
      simp at h
      subst h
      simp [lv_args]
    | succ i =>
      have h2 := lv_args_at vs (j + 1) (fun v hv => hc v (List.mem_cons_of_mem _ hv)) i v (by simpa using h)
      rw [lv_args, hu]
      refine List.mem_cons_of_mem _ ?_
      rw [show j + (i + 1) = j + 1 + i by omega]
      simpa using h2
theorem lg_sl_len : ∀ (vs : List Value), (∀ v ∈ vs, v.category = 1) → (lg_sl vs).length = vs.length
  | [], _ => rfl
  | u :: vs, hc => by
    have hu : u.category = 1 := hc u List.mem_cons_self
    have h2 := lg_sl_len vs (fun v hv => hc v (List.mem_cons_of_mem _ hv))
    simp only [lg_sl, List.flatMap_cons, List.length_append, hu] at h2 ⊢
    simp [h2]
    omega
theorem Ct.of {M : xM} {E : xE} {as : List Value} {w : xW} {Po : xPo} {ws2 : List Cond} (hy : plainName (mY M).cls = true) (hw : mW M = Cond.code (mY M) (mC M) (mL M) (mT M) :: ws2) (hH : mH M = []) (hcat : ∀ v ∈ as, v.category = 1) (hlen : as.length ≤ mL M) {L : List (Option Value)} (hL : as.map some ++ List.replicate (mL M - as.length) none = L)
    (body : WF M E Po w 0 L [] w 0 0) : Ct M E as w Po := by
  subst hL
  intro l hl
  refine vx_ofW hy hw ?_
  intro p e s m args below meth c s₁ B hml htab hv
  obtain ⟨rfl, hP, hK, hC⟩ := hv
  have hlv := lv_entry as (n := mL M) (by rw [lg_sl_len as hcat]; exact hlen)
  rw [lg_entry_eq]
  have hts := atoms_spec (ws := mW M) B.pre
  refine body p l e s m _ below meth c s.heap [] _ ⟨B.exec, B.bytes, B.returns, hml, hts, findClass_of_methodNamed B.named, B.notSynchronized, hl, ?_, (name_of_methodNamed B.named B.method).1, ⟨hK, hC⟩, hP.2⟩ hP (fun q h => Or.inl h) va_S.rf ⟨hlv.1, hlv.2.1, fun i v hi => ?_⟩
  · rw [hH]
    exact List.eq_nil_iff_forall_not_mem.mpr (fun x hx => htab x hx)
  · by_cases hil : i < as.length
    · rw [List.getElem?_append_left (by simpa using hil)] at hi
      simp only [List.getElem?_map, Option.map_eq_some_iff] at hi
      obtain ⟨v2, h1, h2⟩ := hi
      have e9 : v2 = v := Option.some.inj h2
      subst e9
      have h5 := lv_args_at as 0 hcat i _ h1
      rw [Nat.zero_add] at h5
      exact hlv.2.2 (_, _) h5
    · rw [List.getElem?_append_right (by simpa using Nat.not_lt.mp hil)] at hi
      have h3 := List.mem_of_getElem? hi
      exact absurd (List.eq_of_mem_replicate h3) (fun h => nomatch h)
end
