/-! ===== 63.pairs: the calls that change, of both ===== -/
theorem n_mTub2 {d : xCo} {z : Int32} : ¬ (mTub d z).1 = -2 := by
  unfold mTub
  repeat' split
  all_goals first | exact (show ¬ (0 : Int32) = -2 by decide) | exact (show ¬ (-1 : Int32) = -2 by decide) | exact (show ¬ (-2 : Int32) = -2 by decide) | exact (show ¬ (-3 : Int32) = -2 by decide)
theorem n_mTent2 {d : xCo} {z : Int32} : ¬ (mTent d z).1 = -2 := by
  unfold mTent
  repeat' split
  all_goals first | exact (show ¬ (0 : Int32) = -2 by decide) | exact (show ¬ (-1 : Int32) = -2 by decide) | exact (show ¬ (-2 : Int32) = -2 by decide) | exact (show ¬ (-3 : Int32) = -2 by decide)
theorem n_mHeater2 {d : xCo} : ¬ (mHeater d ).1 = -2 := by
  unfold mHeater
  repeat' split
  all_goals first | exact (show ¬ (0 : Int32) = -2 by decide) | exact (show ¬ (-1 : Int32) = -2 by decide) | exact (show ¬ (-2 : Int32) = -2 by decide) | exact (show ¬ (-3 : Int32) = -2 by decide)
theorem n_mHeater3 {d : xCo} : ¬ (mHeater d ).1 = -3 := by
  unfold mHeater
  repeat' split
  all_goals first | exact (show ¬ (0 : Int32) = -3 by decide) | exact (show ¬ (-1 : Int32) = -3 by decide) | exact (show ¬ (-2 : Int32) = -3 by decide) | exact (show ¬ (-3 : Int32) = -3 by decide)
theorem n_mTear1 {d : xCo} {t s : Int32} : ¬ (mTear d t s).1 = -1 := by
  unfold mTear
  repeat' split
  all_goals first | exact (show ¬ (0 : Int32) = -1 by decide) | exact (show ¬ (-1 : Int32) = -1 by decide) | exact (show ¬ (-2 : Int32) = -1 by decide) | exact (show ¬ (-3 : Int32) = -1 by decide)
theorem n_mTear3 {d : xCo} {t s : Int32} : ¬ (mTear d t s).1 = -3 := by
  unfold mTear
  repeat' split
  all_goals first | exact (show ¬ (0 : Int32) = -3 by decide) | exact (show ¬ (-1 : Int32) = -3 by decide) | exact (show ¬ (-2 : Int32) = -3 by decide) | exact (show ¬ (-3 : Int32) = -3 by decide)
theorem n_mMend3 {d : xCo} {t s : Int32} : ¬ (mMend d t s).1 = -3 := by
  unfold mMend
  repeat' split
  all_goals first | exact (show ¬ (0 : Int32) = -3 by decide) | exact (show ¬ (-1 : Int32) = -3 by decide) | exact (show ¬ (-2 : Int32) = -3 by decide) | exact (show ¬ (-3 : Int32) = -3 by decide)
theorem n_mOut3 {d : xCo} {t s : Int32} : ¬ (mOut d t s).1 = -3 := by
  unfold mOut
  repeat' split
  all_goals first | exact (show ¬ (0 : Int32) = -3 by decide) | exact (show ¬ (-1 : Int32) = -3 by decide) | exact (show ¬ (-2 : Int32) = -3 by decide) | exact (show ¬ (-3 : Int32) = -3 by decide)
theorem n_mBack3 {d : xCo} {t : Int32} : ¬ (mBack d t).1 = -3 := by
  unfold mBack
  repeat' split
  all_goals first | exact (show ¬ (0 : Int32) = -3 by decide) | exact (show ¬ (-1 : Int32) = -3 by decide) | exact (show ¬ (-2 : Int32) = -3 by decide) | exact (show ¬ (-3 : Int32) = -3 by decide)
theorem n_mJoin3 {d : xCo} {t : Int32} : ¬ (mJoin d t).1 = -3 := by
  unfold mJoin
  repeat' split
  all_goals first | exact (show ¬ (0 : Int32) = -3 by decide) | exact (show ¬ (-1 : Int32) = -3 by decide) | exact (show ¬ (-2 : Int32) = -3 by decide) | exact (show ¬ (-3 : Int32) = -3 by decide)
theorem n_mHeat3 {d : xCo} {t s : Int32} : ¬ (mHeat d t s).1 = -3 := by
  unfold mHeat
  repeat' split
  all_goals first | exact (show ¬ (0 : Int32) = -3 by decide) | exact (show ¬ (-1 : Int32) = -3 by decide) | exact (show ¬ (-2 : Int32) = -3 by decide) | exact (show ¬ (-3 : Int32) = -3 by decide)
theorem n_mCold3 {d : xCo} {t : Int32} : ¬ (mCold d t).1 = -3 := by
  unfold mCold
  repeat' split
  all_goals first | exact (show ¬ (0 : Int32) = -3 by decide) | exact (show ¬ (-1 : Int32) = -3 by decide) | exact (show ¬ (-2 : Int32) = -3 by decide) | exact (show ¬ (-3 : Int32) = -3 by decide)
theorem n_mWash2 {d : xCo} {t : Int32} : ¬ (mWash d t).1 = -2 := by
  unfold mWash
  repeat' split
  all_goals first | exact (show ¬ (0 : Int32) = -2 by decide) | exact (show ¬ (-1 : Int32) = -2 by decide) | exact (show ¬ (-2 : Int32) = -2 by decide) | exact (show ¬ (-3 : Int32) = -2 by decide)
theorem n_mSoap2 {d : xCo} {t : Int32} : ¬ (mSoap d t).1 = -2 := by
  unfold mSoap
  repeat' split
  all_goals first | exact (show ¬ (0 : Int32) = -2 by decide) | exact (show ¬ (-1 : Int32) = -2 by decide) | exact (show ¬ (-2 : Int32) = -2 by decide) | exact (show ¬ (-3 : Int32) = -2 by decide)
theorem n_mPass1 {d : xCo} {t : Int32} : ¬ (mPass d t).1 = -1 := by
  unfold mPass
  repeat' split
  all_goals first | exact (show ¬ (0 : Int32) = -1 by decide) | exact (show ¬ (-1 : Int32) = -1 by decide) | exact (show ¬ (-2 : Int32) = -1 by decide) | exact (show ¬ (-3 : Int32) = -1 by decide)
theorem n_mPass2 {d : xCo} {t : Int32} : ¬ (mPass d t).1 = -2 := by
  unfold mPass
  repeat' split
  all_goals first | exact (show ¬ (0 : Int32) = -2 by decide) | exact (show ¬ (-1 : Int32) = -2 by decide) | exact (show ¬ (-2 : Int32) = -2 by decide) | exact (show ¬ (-3 : Int32) = -2 by decide)
section PAIRS
variable {E : xE} {x m K : Nat} {h : xHi} {d : xCo} {r : mRs} {o : Nat → Int32} {t : mTx}
theorem pr_tub {z : Int32} (I : IV K h d r o t) (hK : K + 15000 < 16000000) : PR M_X9_tub M_X10_tub E x m K h d r o t [.int z] [.int z] ["java/lang/IllegalArgumentException", "java/lang/UnsupportedOperationException"] :=
  pr_ch (R := addTubS (h.1 0) z) (P := mTub d z) (kA := 0) (kU := 1) I (sim_tub I.1.1.1 I.1.1.2.1) (ud_tub I.1.1.1 I.1.1.2.1 I.1.1.2.2) kr_addTubS kr_mTub (fun q => absurd q n_mTub2) (fun _ => ⟨by decide, rfl, rfl⟩) (fun _ => ⟨by decide, rfl, rfl⟩) (by decide) (fun w Po H hp => ct_X9_tub H hp) (fun w2 Po n hn ho hp => ct_X10_tub (inP_of I.1.1.1 I.1.1.2.1 I.1.1.2.2) hn ho hp)
theorem pr_tent {z : Int32} (I : IV K h d r o t) (hK : K + 15000 < 16000000) : PR M_X9_tent M_X10_tent E x m K h d r o t [.int z] [.int z] ["java/lang/IllegalArgumentException", "java/lang/UnsupportedOperationException"] :=
  pr_ch (R := addTentS (h.1 0) z) (P := mTent d z) (kA := 0) (kU := 1) I (sim_tent I.1.1.1 I.1.1.2.1) (ud_tent I.1.1.1 I.1.1.2.1 I.1.1.2.2) kr_addTentS kr_mTent (fun q => absurd q n_mTent2) (fun _ => ⟨by decide, rfl, rfl⟩) (fun _ => ⟨by decide, rfl, rfl⟩) (by decide) (fun w Po H hp => ct_X9_tent H hp) (fun w2 Po n hn ho hp => ct_X10_tent (inP_of I.1.1.1 I.1.1.2.1 I.1.1.2.2) hn ho hp)
theorem pr_heater (I : IV K h d r o t) (hK : K + 15000 < 16000000) : PR M_X9_heater M_X10_heater E x m K h d r o t [] [] ["java/lang/UnsupportedOperationException"] :=
  pr_ch (R := addHeaterS (h.1 0) ) (P := mHeater d ) (kA := 0) (kU := 0) I (sim_heater I.1.1.1 I.1.1.2.1) (ud_heater I.1.1.1 I.1.1.2.1 I.1.1.2.2) kr_addHeaterS kr_mHeater (fun q => absurd q n_mHeater2) (fun q => absurd q n_mHeater3) (fun _ => ⟨by decide, rfl, rfl⟩) (by decide) (fun w Po H hp => ct_X9_heater H hp) (fun w2 Po n hn ho hp => ct_X10_heater (inP_of I.1.1.1 I.1.1.2.1 I.1.1.2.2) hn ho hp)
theorem pr_tear {y s : Int32} (I : IV K h d r o t) (hK : K + 15000 < 16000000) : PR M_X9_tear M_X10_tear E x m K h d r o t [.int y, .int s] [.int y, .int s] ["java/lang/IndexOutOfBoundsException"] :=
  pr_ch (R := tearS (h.1 0) y s) (P := mTear d y s) (kA := 0) (kU := 0) I (sim_tear I.1.1.1 I.1.1.2.1) (ud_tear I.1.1.1 I.1.1.2.1 I.1.1.2.2) kr_tearS kr_mTear (fun _ => ⟨by decide, rfl⟩) (fun q => absurd q n_mTear3) (fun q => absurd q n_mTear1) (by decide) (fun w Po H hp => ct_X9_tear H hp) (fun w2 Po n hn ho hp => ct_X10_tear (inP_of I.1.1.1 I.1.1.2.1 I.1.1.2.2) hn ho hp)
theorem pr_mend {y s : Int32} (I : IV K h d r o t) (hK : K + 15000 < 16000000) : PR M_X9_mend M_X10_mend E x m K h d r o t [.int y, .int s] [.int y, .int s] ["java/lang/IndexOutOfBoundsException", "java/lang/UnsupportedOperationException"] :=
  pr_ch (R := mendS (h.1 0) y s) (P := mMend d y s) (kA := 0) (kU := 1) I (sim_mend I.1.1.1 I.1.1.2.1 (by omega)) (ud_mend I.1.1.1 I.1.1.2.1 I.1.1.2.2) kr_mendS kr_mMend (fun _ => ⟨by decide, rfl⟩) (fun q => absurd q n_mMend3) (fun _ => ⟨by decide, rfl, rfl⟩) (by decide) (fun w Po H hp => ct_X9_mend H hp) (fun w2 Po n hn ho hp => ct_X10_mend (inP_of I.1.1.1 I.1.1.2.1 I.1.1.2.2) hn ho hp)
theorem pr_out {y s : Int32} (I : IV K h d r o t) (hK : K + 15000 < 16000000) : PR M_X9_out M_X10_out E x m K h d r o t [.int y, .int s] [.int y, .int s] ["java/lang/IndexOutOfBoundsException", "java/lang/UnsupportedOperationException"] :=
  pr_ch (R := outS (h.1 0) y s) (P := mOut d y s) (kA := 0) (kU := 1) I (sim_out I.1.1.1 I.1.1.2.1 (by omega)) (ud_out I.1.1.1 I.1.1.2.1 I.1.1.2.2) kr_outS kr_mOut (fun _ => ⟨by decide, rfl⟩) (fun q => absurd q n_mOut3) (fun _ => ⟨by decide, rfl, rfl⟩) (by decide) (fun w Po H hp => ct_X9_out H hp) (fun w2 Po n hn ho hp => ct_X10_out (inP_of I.1.1.1 I.1.1.2.1 I.1.1.2.2) hn ho hp)
theorem pr_back {y : Int32} (I : IV K h d r o t) (hK : K + 15000 < 16000000) : PR M_X9_back M_X10_back E x m K h d r o t [.int y] [.int y] ["java/lang/IndexOutOfBoundsException", "java/lang/UnsupportedOperationException"] :=
  pr_ch (R := backS (h.1 0) y) (P := mBack d y) (kA := 0) (kU := 1) I (sim_back I.1.1.1 I.1.1.2.1 (by omega)) (ud_back I.1.1.1 I.1.1.2.1 I.1.1.2.2) kr_backS kr_mBack (fun _ => ⟨by decide, rfl⟩) (fun q => absurd q n_mBack3) (fun _ => ⟨by decide, rfl, rfl⟩) (by decide) (fun w Po H hp => ct_X9_back H hp) (fun w2 Po n hn ho hp => ct_X10_back (inP_of I.1.1.1 I.1.1.2.1 I.1.1.2.2) hn ho hp)
theorem pr_join {y : Int32} (I : IV K h d r o t) (hK : K + 15000 < 16000000) : PR M_X9_join M_X10_join E x m K h d r o t [.int y] [.int y] ["java/lang/IndexOutOfBoundsException", "java/lang/UnsupportedOperationException"] :=
  pr_ch (R := joinS (h.1 0) y) (P := mJoin d y) (kA := 0) (kU := 1) I (sim_join I.1.1.1 I.1.1.2.1 (by omega)) (ud_join I.1.1.1 I.1.1.2.1 (by omega) I.1.1.2.2) kr_joinS kr_mJoin (fun _ => ⟨by decide, rfl⟩) (fun q => absurd q n_mJoin3) (fun _ => ⟨by decide, rfl, rfl⟩) (by decide) (fun w Po H hp => ct_X9_join H (J9.inC I.1.1.2.1) hp) (fun w2 Po n hn ho hp => ct_X10_join (inP_of I.1.1.1 I.1.1.2.1 I.1.1.2.2) hn ho hp)
theorem pr_heat {y s : Int32} (I : IV K h d r o t) (hK : K + 15000 < 16000000) : PR M_X9_heat M_X10_heat E x m K h d r o t [.int y, .int s] [.int y, .int s] ["java/lang/IndexOutOfBoundsException", "java/lang/UnsupportedOperationException"] :=
  pr_ch (R := heatPS (h.1 0) y s) (P := mHeat d y s) (kA := 0) (kU := 1) I (sim_heat I.1.1.1 I.1.1.2.1 (by omega)) (ud_heat I.1.1.1 I.1.1.2.1 I.1.1.2.2) kr_heatPS kr_mHeat (fun _ => ⟨by decide, rfl⟩) (fun q => absurd q n_mHeat3) (fun _ => ⟨by decide, rfl, rfl⟩) (by decide) (fun w Po H hp => ct_X9_heat H hp) (fun w2 Po n hn ho hp => ct_X10_heat (inP_of I.1.1.1 I.1.1.2.1 I.1.1.2.2) hn ho hp)
theorem pr_cold {y : Int32} (I : IV K h d r o t) (hK : K + 15000 < 16000000) : PR M_X9_cold M_X10_cold E x m K h d r o t [.int y] [.int y] ["java/lang/IndexOutOfBoundsException", "java/lang/UnsupportedOperationException"] :=
  pr_ch (R := coldS (h.1 0) y) (P := mCold d y) (kA := 0) (kU := 1) I (sim_cold I.1.1.1 I.1.1.2.1 (by omega)) (ud_cold I.1.1.1 I.1.1.2.1 I.1.1.2.2) kr_coldS kr_mCold (fun _ => ⟨by decide, rfl⟩) (fun q => absurd q n_mCold3) (fun _ => ⟨by decide, rfl, rfl⟩) (by decide) (fun w Po H hp => ct_X9_cold H hp) (fun w2 Po n hn ho hp => ct_X10_cold (inP_of I.1.1.1 I.1.1.2.1 I.1.1.2.2) hn ho hp)
theorem pr_gas {y s : Int32} (I : IV K h d r o t) (hK : K + 15000 < 16000000) : PR M_X9_gas M_X10_gas E x m K h d r o t [.int y, .int s] [.int y, .int s] ["java/lang/IndexOutOfBoundsException", "java/lang/IllegalArgumentException", "java/lang/UnsupportedOperationException"] :=
  pr_ch (R := gasS (h.1 0) y s) (P := mGas d y s) (kA := 1) (kU := 2) I (sim_gas I.1.1.1 I.1.1.2.1 (by omega)) (ud_gas I.1.1.1 I.1.1.2.1 I.1.1.2.2) kr_gasS kr_mGas (fun _ => ⟨by decide, rfl⟩) (fun _ => ⟨by decide, rfl, rfl⟩) (fun _ => ⟨by decide, rfl, rfl⟩) (by decide) (fun w Po H hp => ct_X9_gas H hp) (fun w2 Po n hn ho hp => ct_X10_gas (inP_of I.1.1.1 I.1.1.2.1 I.1.1.2.2) hn ho hp)
theorem pr_wash {y : Int32} (I : IV K h d r o t) (hK : K + 15000 < 16000000) : PR M_X9_wash M_X10_wash E x m K h d r o t [.int y] [.int y] ["java/lang/IllegalArgumentException", "java/lang/UnsupportedOperationException"] :=
  pr_ch (R := washS (h.1 0) y) (P := mWash d y) (kA := 0) (kU := 1) I (sim_wash I.1.1.1 I.1.1.2.1 (by omega)) (ud_wash I.1.1.2.2) kr_washS kr_mWash (fun q => absurd q n_mWash2) (fun _ => ⟨by decide, rfl, rfl⟩) (fun _ => ⟨by decide, rfl, rfl⟩) (by decide) (fun w Po H hp => ct_X9_wash H hp) (fun w2 Po n hn ho hp => ct_X10_wash (inP_of I.1.1.1 I.1.1.2.1 I.1.1.2.2) hn ho hp)
theorem pr_soap {y : Int32} (I : IV K h d r o t) (hK : K + 15000 < 16000000) : PR M_X9_soap M_X10_soap E x m K h d r o t [.int y] [.int y] ["java/lang/IllegalArgumentException", "java/lang/UnsupportedOperationException"] :=
  pr_ch (R := soapS (h.1 0) y) (P := mSoap d y) (kA := 0) (kU := 1) I (sim_soap I.1.1.1 I.1.1.2.1 (by omega)) (ud_soap I.1.1.2.2) kr_soapS kr_mSoap (fun q => absurd q n_mSoap2) (fun _ => ⟨by decide, rfl, rfl⟩) (fun _ => ⟨by decide, rfl, rfl⟩) (by decide) (fun w Po H hp => ct_X9_soap H hp) (fun w2 Po n hn ho hp => ct_X10_soap (inP_of I.1.1.1 I.1.1.2.1 I.1.1.2.2) hn ho hp)
theorem pr_pass {y : Int32} (I : IV K h d r o t) (hK : K + 15000 < 16000000) : PR M_X9_pass M_X10_pass E x m K h d r o t [.int y] [.int y] ["java/lang/IllegalArgumentException"] :=
  pr_ch (R := passS (h.1 0) y) (P := mPass d y) (kA := 0) (kU := 0) I (sim_pass I.1.1.1 I.1.1.2.1 (by omega)) (ud_pass I.1.1.1 I.1.1.2.1 I.1.1.2.2) (fun _ => kr_passS) (fun _ => kr_mPass) (fun q => absurd q n_mPass2) (fun _ => ⟨by decide, rfl, rfl⟩) (fun q => absurd q n_mPass1) (by decide) (fun w Po H hp => ct_X9_pass H (J9.inC I.1.1.2.1) hp) (fun w2 Po n hn ho hp => ct_X10_pass (inH_of I.1.1.1 I.1.1.2.1 I.1.1.2.2) hn ho hp)
end PAIRS
