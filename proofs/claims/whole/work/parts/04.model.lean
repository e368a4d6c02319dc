/-! what each method does, as pure functions: laid by wip/gen/walk.py -/
def m_B_putSpread (sB : St) (p1 : Int32) : Int32 × St :=
  ((sB 0 6), (up sB 0 6 p1))
def m_B_tell (sB : St) (p1 : Int32) (p2 : Int32) : Int32 × St :=
  (if 16 ≤ (sB 0 5) then (0, sB)
  else (if (sB 0 5) < 16 then (1, (up (up (up sB 2 (Int32.toNatClampNeg (sB 0 5)) p1) 3 (Int32.toNatClampNeg (sB 0 5)) p2) 0 5 ((sB 0 5) + 1)))
  else (0, sB)))
def m_B_told (sB : St)  : Int32 :=
  (sB 0 5)
def m_B_forgetShots (sB : St)  : Int32 × St :=
  ((sB 0 5), (up sB 0 5 0))
def m_M_slingNow (sM : St)  : Int32 :=
  (sM 1 3)
def m_J_floorDiv  (p0 : Int64) (p2 : Int64) : Int64 :=
  (if 0 ≤ (lg_cmp (p0 ^^^ p2) 0) then (p0 / p2)
  else (if (lg_cmp ((p0 / p2) * p2) p0) = 0 then (p0 / p2)
  else ((p0 / p2) - 1)))
def m_T_up  (p0 : Int64) (p2 : Int64) : Int64 :=
  (if (lg_cmp p2 0) ≤ 0 then 0
  else (-(m_J_floorDiv (-p0) p2)))
def m_M_turnOfRelease (sM : St) (p1 : Int32) (p2 : Int32) : Int32 :=
  (if (lg_cmp (m_T_up (((100 + (Int32.toInt64 p2)) * 2) * (Int32.toInt64 p1)) ((Int32.toInt64 (sM 1 1)) + (2 * (Int32.toInt64 p1)))) 1) < 0 then 161
  else (if 0 < (lg_cmp (m_T_up (((100 + (Int32.toInt64 p2)) * 2) * (Int32.toInt64 p1)) ((Int32.toInt64 (sM 1 1)) + (2 * (Int32.toInt64 p1)))) 160) then 161
  else (Int64.toInt32 (m_T_up (((100 + (Int32.toInt64 p2)) * 2) * (Int32.toInt64 p1)) ((Int32.toInt64 (sM 1 1)) + (2 * (Int32.toInt64 p1)))))))
def m_T_within  (p0 : Int32) (p1 : Int32) (p2 : Int32) : Int32 :=
  (if p0 < p1 then 0
  else (if p2 < p0 then 0
  else 1))
def m_T_down  (p0 : Int64) (p2 : Int64) : Int64 :=
  (if (lg_cmp p2 0) ≤ 0 then 0
  else (m_J_floorDiv p0 p2))
def m_M_speedFor (sM : St) (p1 : Int32) (p2 : Int32) : Int64 :=
  (m_T_down ((2 * (Int32.toInt64 p1)) * ((Int32.toInt64 ((sM 1 1) + p2)) * (Int32.toInt64 ((sM 1 1) + p2)))) ((((Int32.toInt64 (sM 1 2)) * (Int32.toInt64 (sM 1 0))) * (Int32.toInt64 (sM 1 0))) + ((Int32.toInt64 (sM 1 7)) * ((Int32.toInt64 ((sM 1 1) + p2)) * (Int32.toInt64 ((sM 1 1) + p2))))))
def m_T_sineOf  (p0 : Int32) : Int32 :=
  (if 0 ≤ p0 then (Int64.toInt32 (m_T_down (4000 * ((Int32.toInt64 (if 0 ≤ p0 then p0 else 0 - p0)) * (Int32.toInt64 (180 - (if 0 ≤ p0 then p0 else 0 - p0))))) (40500 - ((Int32.toInt64 (if 0 ≤ p0 then p0 else 0 - p0)) * (Int32.toInt64 (180 - (if 0 ≤ p0 then p0 else 0 - p0)))))))
  else (-(Int64.toInt32 (m_T_down (4000 * ((Int32.toInt64 (if 0 ≤ p0 then p0 else 0 - p0)) * (Int32.toInt64 (180 - (if 0 ≤ p0 then p0 else 0 - p0))))) (40500 - ((Int32.toInt64 (if 0 ≤ p0 then p0 else 0 - p0)) * (Int32.toInt64 (180 - (if 0 ≤ p0 then p0 else 0 - p0)))))))))
def m_M_flightOf (sM : St) (p1 : Int32) (p2 : Int32) : Int32 :=
  (if p1 < 1 then (if p1 < 2 then (Int64.toInt32 (if ((Int32.toInt64 p2) - (m_T_down ((Int32.toInt64 p2) * (Int32.toInt64 p2)) ((20 * (Int32.toInt64 (sM 1 7))) + 2000))) < 0 then 0 else ((Int32.toInt64 p2) - (m_T_down ((Int32.toInt64 p2) * (Int32.toInt64 p2)) ((20 * (Int32.toInt64 (sM 1 7))) + 2000)))))
  else (Int64.toInt32 (if (((if ((Int32.toInt64 p2) - (m_T_down ((Int32.toInt64 p2) * (Int32.toInt64 p2)) ((20 * (Int32.toInt64 (sM 1 7))) + 2000))) < 0 then 0 else ((Int32.toInt64 p2) - (m_T_down ((Int32.toInt64 p2) * (Int32.toInt64 p2)) ((20 * (Int32.toInt64 (sM 1 7))) + 2000)))) - (2 * (m_T_down (if ((Int32.toInt64 p2) - (m_T_down ((Int32.toInt64 p2) * (Int32.toInt64 p2)) ((20 * (Int32.toInt64 (sM 1 7))) + 2000))) < 0 then 0 else ((Int32.toInt64 p2) - (m_T_down ((Int32.toInt64 p2) * (Int32.toInt64 p2)) ((20 * (Int32.toInt64 (sM 1 7))) + 2000)))) 25))) - 3) < 0 then 0 else (((if ((Int32.toInt64 p2) - (m_T_down ((Int32.toInt64 p2) * (Int32.toInt64 p2)) ((20 * (Int32.toInt64 (sM 1 7))) + 2000))) < 0 then 0 else ((Int32.toInt64 p2) - (m_T_down ((Int32.toInt64 p2) * (Int32.toInt64 p2)) ((20 * (Int32.toInt64 (sM 1 7))) + 2000)))) - (2 * (m_T_down (if ((Int32.toInt64 p2) - (m_T_down ((Int32.toInt64 p2) * (Int32.toInt64 p2)) ((20 * (Int32.toInt64 (sM 1 7))) + 2000))) < 0 then 0 else ((Int32.toInt64 p2) - (m_T_down ((Int32.toInt64 p2) * (Int32.toInt64 p2)) ((20 * (Int32.toInt64 (sM 1 7))) + 2000)))) 25))) - 3))))
  else (if p1 < 2 then (Int64.toInt32 ((if ((Int32.toInt64 p2) - (m_T_down ((Int32.toInt64 p2) * (Int32.toInt64 p2)) ((20 * (Int32.toInt64 (sM 1 7))) + 2000))) < 0 then 0 else ((Int32.toInt64 p2) - (m_T_down ((Int32.toInt64 p2) * (Int32.toInt64 p2)) ((20 * (Int32.toInt64 (sM 1 7))) + 2000)))) - (m_T_up (if ((Int32.toInt64 p2) - (m_T_down ((Int32.toInt64 p2) * (Int32.toInt64 p2)) ((20 * (Int32.toInt64 (sM 1 7))) + 2000))) < 0 then 0 else ((Int32.toInt64 p2) - (m_T_down ((Int32.toInt64 p2) * (Int32.toInt64 p2)) ((20 * (Int32.toInt64 (sM 1 7))) + 2000)))) 8)))
  else (Int64.toInt32 (if ((((if ((Int32.toInt64 p2) - (m_T_down ((Int32.toInt64 p2) * (Int32.toInt64 p2)) ((20 * (Int32.toInt64 (sM 1 7))) + 2000))) < 0 then 0 else ((Int32.toInt64 p2) - (m_T_down ((Int32.toInt64 p2) * (Int32.toInt64 p2)) ((20 * (Int32.toInt64 (sM 1 7))) + 2000)))) - (m_T_up (if ((Int32.toInt64 p2) - (m_T_down ((Int32.toInt64 p2) * (Int32.toInt64 p2)) ((20 * (Int32.toInt64 (sM 1 7))) + 2000))) < 0 then 0 else ((Int32.toInt64 p2) - (m_T_down ((Int32.toInt64 p2) * (Int32.toInt64 p2)) ((20 * (Int32.toInt64 (sM 1 7))) + 2000)))) 8)) - (2 * (m_T_down ((if ((Int32.toInt64 p2) - (m_T_down ((Int32.toInt64 p2) * (Int32.toInt64 p2)) ((20 * (Int32.toInt64 (sM 1 7))) + 2000))) < 0 then 0 else ((Int32.toInt64 p2) - (m_T_down ((Int32.toInt64 p2) * (Int32.toInt64 p2)) ((20 * (Int32.toInt64 (sM 1 7))) + 2000)))) - (m_T_up (if ((Int32.toInt64 p2) - (m_T_down ((Int32.toInt64 p2) * (Int32.toInt64 p2)) ((20 * (Int32.toInt64 (sM 1 7))) + 2000))) < 0 then 0 else ((Int32.toInt64 p2) - (m_T_down ((Int32.toInt64 p2) * (Int32.toInt64 p2)) ((20 * (Int32.toInt64 (sM 1 7))) + 2000)))) 8)) 25))) - 3) < 0 then 0 else ((((if ((Int32.toInt64 p2) - (m_T_down ((Int32.toInt64 p2) * (Int32.toInt64 p2)) ((20 * (Int32.toInt64 (sM 1 7))) + 2000))) < 0 then 0 else ((Int32.toInt64 p2) - (m_T_down ((Int32.toInt64 p2) * (Int32.toInt64 p2)) ((20 * (Int32.toInt64 (sM 1 7))) + 2000)))) - (m_T_up (if ((Int32.toInt64 p2) - (m_T_down ((Int32.toInt64 p2) * (Int32.toInt64 p2)) ((20 * (Int32.toInt64 (sM 1 7))) + 2000))) < 0 then 0 else ((Int32.toInt64 p2) - (m_T_down ((Int32.toInt64 p2) * (Int32.toInt64 p2)) ((20 * (Int32.toInt64 (sM 1 7))) + 2000)))) 8)) - (2 * (m_T_down ((if ((Int32.toInt64 p2) - (m_T_down ((Int32.toInt64 p2) * (Int32.toInt64 p2)) ((20 * (Int32.toInt64 (sM 1 7))) + 2000))) < 0 then 0 else ((Int32.toInt64 p2) - (m_T_down ((Int32.toInt64 p2) * (Int32.toInt64 p2)) ((20 * (Int32.toInt64 (sM 1 7))) + 2000)))) - (m_T_up (if ((Int32.toInt64 p2) - (m_T_down ((Int32.toInt64 p2) * (Int32.toInt64 p2)) ((20 * (Int32.toInt64 (sM 1 7))) + 2000))) < 0 then 0 else ((Int32.toInt64 p2) - (m_T_down ((Int32.toInt64 p2) * (Int32.toInt64 p2)) ((20 * (Int32.toInt64 (sM 1 7))) + 2000)))) 8)) 25))) - 3)))))
def b_M_reckonRelease_121 (sM_121 : St) (x9_121 : Int32) : St :=
  (up sM_121 3 6 (if 0 < (x9_121 + (((sM_121 0 5) * x9_121) / 100)) then (x9_121 + (((sM_121 0 5) * x9_121) / 100)) else 0))
def b_M_reckonRelease_87 (sM_87 : St) (x5_87 : Int64) (x7_87 : Int64) : St :=
  (b_M_reckonRelease_121 (up (up sM_87 3 4 (Int64.toInt32 x5_87)) 3 5 (Int64.toInt32 x7_87)) (m_M_flightOf (up (up sM_87 3 4 (Int64.toInt32 x5_87)) 3 5 (Int64.toInt32 x7_87)) (sM_87 1 8) (Int64.toInt32 x7_87)))
def b_M_reckonRelease_68 (sM_68 : St) (x4_68 : Int32) (x5_68 : Int64) : St :=
  (b_M_reckonRelease_87 sM_68 x5_68 (m_T_down (x5_68 * (Int32.toInt64 (m_T_sineOf (2 * x4_68)))) 8000))
def b_M_reckonRelease_16 (sM_16 : St) (p1 : Int32) (p2 : Int32) (x4_16 : Int32) : St :=
  (if (m_T_within x4_16 1 89) = 0 then (up (up (up sM_16 3 0 p1) 3 2 (sM_16 2 (Int32.toNatClampNeg p1))) 3 3 x4_16)
  else (b_M_reckonRelease_68 (up (up (up sM_16 3 0 p1) 3 2 (sM_16 2 (Int32.toNatClampNeg p1))) 3 3 x4_16) x4_16 (m_M_speedFor (up (up (up sM_16 3 0 p1) 3 2 (sM_16 2 (Int32.toNatClampNeg p1))) 3 3 x4_16) (sM_16 2 (Int32.toNatClampNeg p1)) p2)))
def m_M_reckonRelease (sM : St) (p1 : Int32) (p2 : Int32) (p3 : Int32) : St :=
  (b_M_reckonRelease_16 sM p1 p2 ((180 - (p1 - (sM 1 5))) - p3))
def f_M_reckon_2   (sM_2 : St) (x3_2 : Int32) : Option (St × Int32) :=
  (if 7 ≤ x3_2 then none
  else some ((up sM_2 3 (Int32.toNatClampNeg x3_2) (-9)), (x3_2 + 1)))
def g_M_reckon_2   : St × Int32 → Option (St × Int32) := fun v => f_M_reckon_2 v.1 v.2
def b_M_reckon_25 (sM_25 : St) (p1 : Int32) (p2 : Int32) : Int32 × St :=
  (if 161 ≤ (sM_25 0 4) then (if 161 ≤ (m_M_turnOfRelease sM_25 p1 p2) then ((sM_25 3 6), sM_25)
  else (((m_M_reckonRelease sM_25 (m_M_turnOfRelease sM_25 p1 p2) p1 p2) 3 6), (m_M_reckonRelease sM_25 (m_M_turnOfRelease sM_25 p1 p2) p1 p2)))
  else (if (m_M_turnOfRelease sM_25 p1 p2) < (sM_25 0 4) then (if 161 ≤ (m_M_turnOfRelease sM_25 p1 p2) then ((sM_25 3 6), sM_25)
  else (((m_M_reckonRelease sM_25 (m_M_turnOfRelease sM_25 p1 p2) p1 p2) 3 6), (m_M_reckonRelease sM_25 (m_M_turnOfRelease sM_25 p1 p2) p1 p2)))
  else (((up sM_25 3 1 (sM_25 0 4)) 3 6), (up sM_25 3 1 (sM_25 0 4)))))
def m_M_reckon (sM : St) (p1 : Int32) (p2 : Int32) : Int32 × St :=
  (b_M_reckon_25 (wl g_M_reckon_2 8 (sM, 0)).1 p1 p2)
def m_B_scaled (sB : St) (p1 : Int32) (p2 : Int32) : Int32 :=
  (Int64.toInt32 (m_T_down ((Int32.toInt64 (sB 1 (Int32.toNatClampNeg p2))) * (Int32.toInt64 (85 + p1))) 100))
def m_B_bear (sB : St) (p1 : Int32) (p2 : Int32) (p3 : Int32) : St :=
  (if (sB 1 (Int32.toNatClampNeg p2)) = (-9) then (up sB 5 (Int32.toNatClampNeg p1) (-13))
  else (up (up sB 4 (Int32.toNatClampNeg p1) (if (sB 4 (Int32.toNatClampNeg p1)) < ((p3 - (m_B_scaled sB p1 p2)) - (sB 0 6)) then ((p3 - (m_B_scaled sB p1 p2)) - (sB 0 6)) else (sB 4 (Int32.toNatClampNeg p1)))) 5 (Int32.toNatClampNeg p1) (if ((p3 - (m_B_scaled sB p1 p2)) + (sB 0 6)) < (sB 5 (Int32.toNatClampNeg p1)) then ((p3 - (m_B_scaled sB p1 p2)) + (sB 0 6)) else (sB 5 (Int32.toNatClampNeg p1)))))
def f_B_study_61 (sM_61 : St) (x3_61 : Int32) (sB_61 : St) (x4_61 : Int32) : Option (St × Int32) :=
  (if (sB_61 0 5) ≤ x4_61 then none
  else some ((m_B_bear sB_61 x3_61 (sB_61 2 (Int32.toNatClampNeg x4_61)) (sB_61 3 (Int32.toNatClampNeg x4_61))), (x4_61 + 1)))
def g_B_study_61 (sM_61 : St) (x3_61 : Int32) : St × Int32 → Option (St × Int32) := fun v => f_B_study_61 sM_61 x3_61 v.1 v.2
def f_B_study_7  (x2_7 : Int32) (sM_7 : St) (sB_7 : St) (x3_7 : Int32) : Option (St × St × Int32) :=
  (if 61 ≤ x3_7 then none
  else some ((m_M_reckon sM_7 x2_7 x3_7).2, (up sB_7 1 (Int32.toNatClampNeg x3_7) (m_M_reckon sM_7 x2_7 x3_7).1), (x3_7 + 1)))
def g_B_study_7  (x2_7 : Int32) : St × St × Int32 → Option (St × St × Int32) := fun v => f_B_study_7 x2_7 v.1 v.2.1 v.2.2
def b_B_study_95 (sM_36 : St) (sB_95 : St) (x3_95 : Int32) : Option (St × Int32) :=
  some (sB_95, (x3_95 + 1))
def f_B_study_36 (sM_36 : St)  (sB_36 : St) (x3_36 : Int32) : Option (St × Int32) :=
  (if 31 ≤ x3_36 then none
  else (b_B_study_95 sM_36 (wl (g_B_study_61 sM_36 x3_36) 17 ((up (up sB_36 4 (Int32.toNatClampNeg x3_36) (-12)) 5 (Int32.toNatClampNeg x3_36) 12), 0)).1 x3_36))
def g_B_study_36 (sM_36 : St)  : St × Int32 → Option (St × Int32) := fun v => f_B_study_36 sM_36 v.1 v.2
def b_B_study_101 (sM_101 : St) (sB_101 : St) : St × St :=
  (sM_101, sB_101)
def b_B_study_34 (sM_34 : St) (sB_34 : St) : St × St :=
  (b_B_study_101 sM_34 (wl (g_B_study_36 sM_34) 32 (sB_34, 0)).1)
def m_B_study (sM : St) (sB : St)  : St × St :=
  (b_B_study_34 (wl (g_B_study_7 (m_M_slingNow sM)) 62 (sM, sB, 0)).1 (wl (g_B_study_7 (m_M_slingNow sM)) 62 (sM, sB, 0)).2.1)
def m_B_isLeft (sB : St) (p1 : Int32) : Int32 :=
  (if (sB 5 (Int32.toNatClampNeg p1)) < (sB 4 (Int32.toNatClampNeg p1)) then 0
  else 1)
def f_B_pairsLeft_4 (sB : St)  (x1_4 : Int32) (x2_4 : Int32) : Option (Int32 × Int32) :=
  (if 31 ≤ x2_4 then none
  else (if (m_B_isLeft sB x2_4) = 0 then some ((x1_4 + 0), (x2_4 + 1))
  else some ((x1_4 + (((sB 5 (Int32.toNatClampNeg x2_4)) - (sB 4 (Int32.toNatClampNeg x2_4))) + 1)), (x2_4 + 1))))
def g_B_pairsLeft_4 (sB : St)  : Int32 × Int32 → Option (Int32 × Int32) := fun v => f_B_pairsLeft_4 sB v.1 v.2
def b_B_pairsLeft_46 (sB : St) (x1_46 : Int32) : Int32 :=
  x1_46
def m_B_pairsLeft (sB : St)  : Int32 :=
  (b_B_pairsLeft_46 sB (wl (g_B_pairsLeft_4 sB) 32 (0, 0)).1)
def m_B_places (sB : St) (p1 : Int32) : Int32 :=
  (if (sB 1 (Int32.toNatClampNeg p1)) = (-9) then 0
  else (if (m_B_pairsLeft sB) ≤ 0 then 0
  else 1))
def f_B_leastPlace_5 (sB : St) (p1 : Int32) (x2_5 : Int32) (x3_5 : Int32) : Option (Int32 × Int32) :=
  (if 31 ≤ x3_5 then none
  else (if (m_B_isLeft sB x3_5) = 0 then some (x2_5, (x3_5 + 1))
  else some ((if ((m_B_scaled sB x3_5 p1) + (sB 4 (Int32.toNatClampNeg x3_5))) < x2_5 then ((m_B_scaled sB x3_5 p1) + (sB 4 (Int32.toNatClampNeg x3_5))) else x2_5), (x3_5 + 1))))
def g_B_leastPlace_5 (sB : St) (p1 : Int32) : Int32 × Int32 → Option (Int32 × Int32) := fun v => f_B_leastPlace_5 sB p1 v.1 v.2
def b_B_leastPlace_43 (sB : St) (x2_43 : Int32) : Int32 :=
  x2_43
def m_B_leastPlace (sB : St) (p1 : Int32) : Int32 :=
  (b_B_leastPlace_43 sB (wl (g_B_leastPlace_5 sB p1) 32 (1000000, 0)).1)
def f_B_greatestPlace_5 (sB : St) (p1 : Int32) (x2_5 : Int32) (x3_5 : Int32) : Option (Int32 × Int32) :=
  (if 31 ≤ x3_5 then none
  else (if (m_B_isLeft sB x3_5) = 0 then some (x2_5, (x3_5 + 1))
  else some ((if x2_5 < ((m_B_scaled sB x3_5 p1) + (sB 5 (Int32.toNatClampNeg x3_5))) then ((m_B_scaled sB x3_5 p1) + (sB 5 (Int32.toNatClampNeg x3_5))) else x2_5), (x3_5 + 1))))
def g_B_greatestPlace_5 (sB : St) (p1 : Int32) : Int32 × Int32 → Option (Int32 × Int32) := fun v => f_B_greatestPlace_5 sB p1 v.1 v.2
def b_B_greatestPlace_43 (sB : St) (x2_43 : Int32) : Int32 :=
  x2_43
def m_B_greatestPlace (sB : St) (p1 : Int32) : Int32 :=
  (b_B_greatestPlace_43 sB (wl (g_B_greatestPlace_5 sB p1) 32 ((-1000000), 0)).1)
def f_B_widestHook_7 (sB : St)  (x1_7 : Int32) (x2_7 : Int32) (x3_7 : Int32) : Option (Int32 × Int32 × Int32) :=
  (if 61 ≤ x3_7 then none
  else (if (m_B_places sB x3_7) = 0 then (if (-1) ≤ x2_7 then some (x1_7, x2_7, (x3_7 + 1))
  else some (x3_7, (-1), (x3_7 + 1)))
  else (if ((m_B_greatestPlace sB x3_7) - (m_B_leastPlace sB x3_7)) ≤ x2_7 then some (x1_7, x2_7, (x3_7 + 1))
  else some (x3_7, ((m_B_greatestPlace sB x3_7) - (m_B_leastPlace sB x3_7)), (x3_7 + 1)))))
def g_B_widestHook_7 (sB : St)  : Int32 × Int32 × Int32 → Option (Int32 × Int32 × Int32) := fun v => f_B_widestHook_7 sB v.1 v.2.1 v.2.2
def b_B_widestHook_58 (sB : St) (x1_58 : Int32) : Int32 :=
  x1_58
def m_B_widestHook (sB : St)  : Int32 :=
  (b_B_widestHook_58 sB (wl (g_B_widestHook_7 sB) 62 ((-9), (-1), 0)).1)
def m_B_farthestMiss (sB : St) (p1 : Int32) (p2 : Int32) : Int32 :=
  (if (if 0 ≤ ((m_B_leastPlace sB p1) - p2) then ((m_B_leastPlace sB p1) - p2) else 0 - ((m_B_leastPlace sB p1) - p2)) < (if 0 ≤ ((m_B_greatestPlace sB p1) - p2) then ((m_B_greatestPlace sB p1) - p2) else 0 - ((m_B_greatestPlace sB p1) - p2)) then (if 0 ≤ ((m_B_greatestPlace sB p1) - p2) then ((m_B_greatestPlace sB p1) - p2) else 0 - ((m_B_greatestPlace sB p1) - p2)) else (if 0 ≤ ((m_B_leastPlace sB p1) - p2) then ((m_B_leastPlace sB p1) - p2) else 0 - ((m_B_leastPlace sB p1) - p2)))
def f_B_surestHook_9 (sB : St) (p1 : Int32) (x2_9 : Int32) (x3_9 : Int32) (x4_9 : Int32) : Option (Int32 × Int32 × Int32) :=
  (if 61 ≤ x4_9 then none
  else (if (m_B_places sB x4_9) = 0 then (if x3_9 ≤ 1000000 then some (x2_9, x3_9, (x4_9 + 1))
  else some (x4_9, 1000000, (x4_9 + 1)))
  else (if x3_9 ≤ (m_B_farthestMiss sB x4_9 p1) then some (x2_9, x3_9, (x4_9 + 1))
  else some (x4_9, (m_B_farthestMiss sB x4_9 p1), (x4_9 + 1)))))
def g_B_surestHook_9 (sB : St) (p1 : Int32) : Int32 × Int32 × Int32 → Option (Int32 × Int32 × Int32) := fun v => f_B_surestHook_9 sB p1 v.1 v.2.1 v.2.2
def b_B_surestHook_60 (sB : St) (x2_60 : Int32) : Int32 :=
  x2_60
def m_B_surestHook (sB : St) (p1 : Int32) : Int32 :=
  (b_B_surestHook_60 sB (wl (g_B_surestHook_9 sB p1) 62 ((-9), 1000000, 0)).1)
def m_M_takes (sM : St) (p1 : Int32) (p2 : Int32) : Int32 :=
  (if (m_T_within p1 0 8) = 0 then 0
  else (if (m_T_within p2 (zML (Int32.toNatClampNeg p1)) (zMM (Int32.toNatClampNeg p1))) = 0 then 0
  else 1))
def f_M_turnBeam_55  (x1_55 : Int64) (x3_55 : Int32) (sM_55 : St) (x4_55 : Int32) : Option (St × Int32) :=
  (if x4_55 < 1 then none
  else (if 0 < ((Int64.toInt32 (m_T_down (x1_55 * (Int32.toInt64 ((m_T_sineOf (x4_55 - (sM_55 1 5))) + x3_55))) 1000)) - ((sM_55 1 6) * x4_55)) then some ((up sM_55 2 (Int32.toNatClampNeg x4_55) ((Int64.toInt32 (m_T_down (x1_55 * (Int32.toInt64 ((m_T_sineOf (x4_55 - (sM_55 1 5))) + x3_55))) 1000)) - ((sM_55 1 6) * x4_55))), (x4_55 + (-1)))
  else some ((up (up sM_55 2 (Int32.toNatClampNeg x4_55) ((Int64.toInt32 (m_T_down (x1_55 * (Int32.toInt64 ((m_T_sineOf (x4_55 - (sM_55 1 5))) + x3_55))) 1000)) - ((sM_55 1 6) * x4_55))) 0 4 x4_55), (x4_55 + (-1)))))
def g_M_turnBeam_55  (x1_55 : Int64) (x3_55 : Int32) : St × Int32 → Option (St × Int32) := fun v => f_M_turnBeam_55 x1_55 x3_55 v.1 v.2
def b_M_turnBeam_129 (sM_129 : St) : St :=
  sM_129
def m_M_turnBeam (sM : St)  : St :=
  (b_M_turnBeam_129 (wl (g_M_turnBeam_55 (((Int32.toInt64 (sM 1 2)) * (Int32.toInt64 (sM 1 0))) - ((Int32.toInt64 (sM 1 7)) * (Int32.toInt64 (sM 1 1)))) (m_T_sineOf (sM 1 5))) 161 ((up sM 0 4 161), 160)).1)
def m_M_put (sM : St) (p1 : Int32) (p2 : Int32) : Int32 × St :=
  (if (m_M_takes sM p1 p2) = 0 then ((-1), sM)
  else ((sM 1 (Int32.toNatClampNeg p1)), (m_M_turnBeam (up sM 1 (Int32.toNatClampNeg p1) p2))))
def m_M_putWind (sM : St) (p1 : Int32) : Int32 × St :=
  ((sM 0 5), (up sM 0 5 p1))
def m_M_reckonOwn (sM : St)  : Int32 × St :=
  ((m_M_reckon sM (sM 1 3) (sM 1 4)).1, (m_M_reckon sM (sM 1 3) (sM 1 4)).2)
def m_M_bodiesAsked  (p0 : Int32) : Int32 :=
  (if p0 = 0 then 1
  else (if p0 = 1 then 11
  else 111))
def m_M_reckoned (sM : St) (p1 : Int32) : Int32 :=
  (if (m_T_within p1 0 6) = 0 then (-1)
  else (sM 3 (Int32.toNatClampNeg p1)))
def m_M_keepTuning (sM : St) (p1 : Int32) (p2 : Int32) (p3 : Int32) : St :=
  (up (up (up sM 4 0 p1) 4 1 p2) 4 2 p3)
def f_M_tuneTo_26  (p3 : Int32) (x5_26 : Int32) (sM_26 : St) (x4_26 : Int32) (x6_26 : Int32) : Option (St × Int32 × Int32) :=
  (if 60 < x6_26 then none
  else (if (m_M_reckon sM_26 x5_26 x6_26).1 = (-9) then some ((m_M_reckon sM_26 x5_26 x6_26).2, x4_26, (x6_26 + 1))
  else (if x4_26 ≤ (if 0 ≤ ((m_M_reckon sM_26 x5_26 x6_26).1 - p3) then ((m_M_reckon sM_26 x5_26 x6_26).1 - p3) else 0 - ((m_M_reckon sM_26 x5_26 x6_26).1 - p3)) then some ((m_M_reckon sM_26 x5_26 x6_26).2, x4_26, (x6_26 + 1))
  else some ((m_M_keepTuning (m_M_reckon sM_26 x5_26 x6_26).2 x5_26 x6_26 (m_M_reckon sM_26 x5_26 x6_26).1), (if 0 ≤ ((m_M_reckon sM_26 x5_26 x6_26).1 - p3) then ((m_M_reckon sM_26 x5_26 x6_26).1 - p3) else 0 - ((m_M_reckon sM_26 x5_26 x6_26).1 - p3)), (x6_26 + 1)))))
def g_M_tuneTo_26  (p3 : Int32) (x5_26 : Int32) : St × Int32 × Int32 → Option (St × Int32 × Int32) := fun v => f_M_tuneTo_26 p3 x5_26 v.1 v.2.1 v.2.2
def b_M_tuneTo_86 (sM_86 : St) (p2 : Int32) (p3 : Int32) (x4_86 : Int32) (x5_86 : Int32) : Option (St × Int32 × Int32) :=
  some (sM_86, x4_86, (x5_86 + 1))
def f_M_tuneTo_17  (p2 : Int32) (p3 : Int32) (sM_17 : St) (x4_17 : Int32) (x5_17 : Int32) : Option (St × Int32 × Int32) :=
  (if p2 < x5_17 then none
  else (b_M_tuneTo_86 (wl (g_M_tuneTo_26 p3 x5_17) 62 (sM_17, x4_17, 0)).1 p2 p3 (wl (g_M_tuneTo_26 p3 x5_17) 62 (sM_17, x4_17, 0)).2.1 x5_17))
def g_M_tuneTo_17  (p2 : Int32) (p3 : Int32) : St × Int32 × Int32 → Option (St × Int32 × Int32) := fun v => f_M_tuneTo_17 p2 p3 v.1 v.2.1 v.2.2
def b_M_tuneTo_92 (sM_92 : St) : St :=
  sM_92
def m_M_tuneTo (sM : St) (p1 : Int32) (p2 : Int32) (p3 : Int32) : St :=
  (b_M_tuneTo_92 (wl (g_M_tuneTo_17 p2 p3) 152 ((m_M_keepTuning sM (-9) (-9) (-9)), 1000000, p1)).1)
def m_M_tuned (sM : St) (p1 : Int32) : Int32 :=
  (if (m_T_within p1 0 2) = 0 then (-1)
  else (sM 4 (Int32.toNatClampNeg p1)))
def m_M_forceAt (sM : St) (p1 : Int32) : Int32 :=
  (Int64.toInt32 (if ((m_T_down ((Int32.toInt64 (sM 1 7)) * (Int32.toInt64 p1)) 500) + 1) < 99 then ((m_T_down ((Int32.toInt64 (sM 1 7)) * (Int32.toInt64 p1)) 500) + 1) else 99))
def m_M_turnsOfShot (sM : St)  : Int32 :=
  (Int64.toInt32 (m_T_up ((Int32.toInt64 (sM 1 2)) * (Int32.toInt64 (sM 1 0))) 1000))
def m_S_takes (sS : St) (p1 : Int32) (p2 : Int32) : Int32 :=
  (if (m_T_within p1 0 4) = 0 then 0
  else (if (m_T_within p2 (zSL (Int32.toNatClampNeg p1)) (zSM (Int32.toNatClampNeg p1))) = 0 then 0
  else 1))
def m_S_put (sS : St) (p1 : Int32) (p2 : Int32) : Int32 × St :=
  (if (m_S_takes sS p1 p2) = 0 then ((-1), sS)
  else ((sS 1 (Int32.toNatClampNeg p1)), (up sS 1 (Int32.toNatClampNeg p1) p2)))
def m_S_stones (sS : St)  : Int32 :=
  (sS 1 1)
def m_S_spendStone (sS : St)  : St :=
  (up sS 1 1 (if 0 < ((sS 1 1) - 1) then ((sS 1 1) - 1) else 0))
def m_S_putWet (sS : St) (p1 : Int32) (p2 : Int32) : St :=
  (up (up sS 0 1 p1) 0 2 p2)
def m_S_isWet (sS : St) (p1 : Int32) : Int32 :=
  (if (sS 0 1) ≤ 0 then (if (((sS 0 2) >>> (0 &&& 31)) &&& 1) = 0 then 0
  else 1)
  else (if (((sS 0 2) >>> ((p1 - p1 / (sS 0 1) * (sS 0 1)) &&& 31)) &&& 1) = 0 then 0
  else 1))
def f_S_wholeDays_116 (sS : St) (p1 : Int32) (x9_116 : Int32) (x6_116 : Int32) (x7_116 : Int32) (x11_116 : Int32) : Option (Int32 × Int32 × Int32) :=
  (if p1 ≤ x11_116 then none
  else (if x9_116 = 0 then (if (x7_116 + 1) < (sS 1 4) then some (x6_116, (x7_116 + 1), (x11_116 + 1))
  else some ((x6_116 + (-3)), 0, (x11_116 + 1)))
  else (if (x7_116 + 2) < (sS 1 4) then some (x6_116, (x7_116 + 2), (x11_116 + 1))
  else some ((x6_116 + (-3)), 0, (x11_116 + 1)))))
def g_S_wholeDays_116 (sS : St) (p1 : Int32) (x9_116 : Int32) : Int32 × Int32 × Int32 → Option (Int32 × Int32 × Int32) := fun v => f_S_wholeDays_116 sS p1 x9_116 v.1 v.2.1 v.2.2
def b_S_wholeDays_160 (sS : St) (p1 : Int32) (p2 : Int32) (p3 : Int32) (x4_160 : Int32) (x5_160 : Int32) (x6_160 : Int32) (x7_160 : Int32) (x8_160 : Int32) : (Int32 × Int32 × Int32 × Int32 × Int32) ⊕ (Int32) :=
  (if 0 ≤ x6_160 then .inl (x4_160, x5_160, x6_160, x7_160, (x8_160 + 1))
  else .inr x8_160)
def f_S_wholeDays_30 (sS : St) (p1 : Int32) (p2 : Int32) (p3 : Int32) (x4_30 : Int32) (x5_30 : Int32) (x6_30 : Int32) (x7_30 : Int32) (x8_30 : Int32) : (Int32 × Int32 × Int32 × Int32 × Int32) ⊕ (Int32) :=
  (if p3 ≤ x8_30 then .inr p3
  else (if (m_S_isWet sS x8_30) = 0 then (if (x4_30 - (sS 1 0)) < 0 then .inr x8_30
  else (if (30 * (sS 1 0)) < (p1 * p2) then .inr x8_30
  else (if p1 ≤ x5_30 then (b_S_wholeDays_160 sS p1 p2 p3 (x4_30 - (sS 1 0)) (x5_30 - p1) (wl (g_S_wholeDays_116 sS p1 (m_S_isWet sS x8_30)) 61 (x6_30, x7_30, 0)).1 (wl (g_S_wholeDays_116 sS p1 (m_S_isWet sS x8_30)) 61 (x6_30, x7_30, 0)).2.1 x8_30)
  else .inr x8_30)))
  else (if (x4_30 - (sS 1 0)) < 0 then .inr x8_30
  else (if (30 * (sS 1 0)) < (p1 * (p2 + (Int64.toInt32 (m_T_up (Int32.toInt64 p2) 4)))) then .inr x8_30
  else (if p1 ≤ x5_30 then (b_S_wholeDays_160 sS p1 p2 p3 (x4_30 - (sS 1 0)) (x5_30 - p1) (wl (g_S_wholeDays_116 sS p1 (m_S_isWet sS x8_30)) 61 (x6_30, x7_30, 0)).1 (wl (g_S_wholeDays_116 sS p1 (m_S_isWet sS x8_30)) 61 (x6_30, x7_30, 0)).2.1 x8_30)
  else .inr x8_30)))))
def g_S_wholeDays_30 (sS : St) (p1 : Int32) (p2 : Int32) (p3 : Int32) : Int32 × Int32 × Int32 × Int32 × Int32 → (Int32 × Int32 × Int32 × Int32 × Int32) ⊕ (Int32) := fun v => f_S_wholeDays_30 sS p1 p2 p3 v.1 v.2.1 v.2.2.1 v.2.2.2.1 v.2.2.2.2
def m_S_wholeDays (sS : St) (p1 : Int32) (p2 : Int32) (p3 : Int32) : Int32 :=
  (wc (g_S_wholeDays_30 sS p1 p2 p3) 0 101 ((sS 1 3), (sS 1 1), (sS 1 2), 0, 0))
def f_S_bestRate_3 (sS : St) (p1 : Int32) (p2 : Int32) (x3_3 : Int32) : (Int32) ⊕ (Int32) :=
  (if x3_3 < 0 then .inr (-9)
  else (if (m_S_wholeDays sS x3_3 p2 p1) = p1 then .inr x3_3
  else .inl (x3_3 + (-1))))
def g_S_bestRate_3 (sS : St) (p1 : Int32) (p2 : Int32) : Int32 → (Int32) ⊕ (Int32) := fun v => f_S_bestRate_3 sS p1 p2 v
def m_S_bestRate (sS : St) (p1 : Int32) (p2 : Int32) : Int32 :=
  (wc (g_S_bestRate_3 sS p1 p2) 0 62 60)
def f_L_build_12   (sL_12 : St) (x3_12 : Int32) : Option (St × Int32) :=
  (if 48 ≤ x3_12 then none
  else some ((up sL_12 1 (Int32.toNatClampNeg x3_12) 10), (x3_12 + 1)))
def g_L_build_12   : St × Int32 → Option (St × Int32) := fun v => f_L_build_12 v.1 v.2
def f_L_build_37  (p1 : Int32) (p2 : Int32) (sL_37 : St) (x3_37 : Int32) : Option (St × Int32) :=
  (if 8 ≤ x3_37 then none
  else (if p1 ≤ x3_37 then some ((up (up sL_37 2 (Int32.toNatClampNeg x3_37) 0) 3 (Int32.toNatClampNeg x3_37) 0), (x3_37 + 1))
  else some ((up (up sL_37 2 (Int32.toNatClampNeg x3_37) ((1 <<< (p2 &&& 31)) - 1)) 3 (Int32.toNatClampNeg x3_37) 0), (x3_37 + 1))))
def g_L_build_37  (p1 : Int32) (p2 : Int32) : St × Int32 → Option (St × Int32) := fun v => f_L_build_37 p1 p2 v.1 v.2
def b_L_build_76 (sL_76 : St) : St :=
  sL_76
def b_L_build_35 (sL_35 : St) (p1 : Int32) (p2 : Int32) : St :=
  (b_L_build_76 (wl (g_L_build_37 p1 p2) 9 (sL_35, 0)).1)
def m_L_build (sL : St) (p1 : Int32) (p2 : Int32) : St :=
  (b_L_build_35 (wl g_L_build_12 49 ((up (up sL 0 4 p1) 0 5 p2), 0)).1 p1 p2)
def m_L_wide (sL : St)  : Int32 :=
  (sL 0 4)
def m_L_high (sL : St)  : Int32 :=
  (sL 0 5)
def m_L_has (sL : St) (p1 : Int32) (p2 : Int32) : Int32 :=
  (if p1 < 0 then 0
  else (if (sL 0 4) ≤ p1 then 0
  else (if p2 < 0 then 0
  else (if (sL 0 5) ≤ p2 then 0
  else 1))))
def m_L_place  (p0 : Int32) (p1 : Int32) : Int32 :=
  ((p0 * 6) + p1)
def m_L_holds  (p0 : Int32) (p1 : Int32) : Int32 :=
  (if ((p0 >>> (p1 &&& 31)) &&& 1) = 0 then 0
  else 1)
def m_L_stands (sL : St) (p1 : Int32) (p2 : Int32) : Int32 :=
  (if (m_L_has sL p1 p2) = 0 then 0
  else (if (m_L_holds (sL 2 (Int32.toNatClampNeg p1)) p2) = 0 then 0
  else 1))
def m_L_isPropped (sL : St) (p1 : Int32) (p2 : Int32) : Int32 :=
  (if (m_L_has sL p1 p2) = 0 then 0
  else (if (m_L_holds (sL 3 (Int32.toNatClampNeg p1)) p2) = 0 then 0
  else 1))
def m_L_strengthAt (sL : St) (p1 : Int32) (p2 : Int32) : Int32 :=
  (if (m_L_has sL p1 p2) = 0 then (-1)
  else (sL 1 (Int32.toNatClampNeg (m_L_place p1 p2))))
def m_L_putStrength (sL : St) (p1 : Int32) (p2 : Int32) (p3 : Int32) : Int32 × St :=
  (if (m_L_has sL p1 p2) = 0 then ((-1), sL)
  else ((sL 1 (Int32.toNatClampNeg (m_L_place p1 p2))), (up sL 1 (Int32.toNatClampNeg (m_L_place p1 p2)) p3)))
def m_L_putProp (sL : St) (p1 : Int32) (p2 : Int32) : Int32 × St :=
  (if (m_L_has sL p1 p2) = 0 then ((-1), sL)
  else (if (m_L_holds (sL 3 (Int32.toNatClampNeg p1)) p2) = 0 then (0, (up sL 3 (Int32.toNatClampNeg p1) ((sL 3 (Int32.toNatClampNeg p1)) ||| (1 <<< (p2 &&& 31)))))
  else (1, (up sL 3 (Int32.toNatClampNeg p1) ((sL 3 (Int32.toNatClampNeg p1)) ||| (1 <<< (p2 &&& 31)))))))
def m_J_bitCount  (p0 : Int32) : Int32 :=
  ((((((((p0 - (((Int32.toUInt32 p0 >>> (Int32.toUInt32 1 &&& Int32.toUInt32 31)).toInt32) &&& 1431655765)) &&& 858993459) + (((Int32.toUInt32 (p0 - (((Int32.toUInt32 p0 >>> (Int32.toUInt32 1 &&& Int32.toUInt32 31)).toInt32) &&& 1431655765)) >>> (Int32.toUInt32 2 &&& Int32.toUInt32 31)).toInt32) &&& 858993459)) + ((Int32.toUInt32 (((p0 - (((Int32.toUInt32 p0 >>> (Int32.toUInt32 1 &&& Int32.toUInt32 31)).toInt32) &&& 1431655765)) &&& 858993459) + (((Int32.toUInt32 (p0 - (((Int32.toUInt32 p0 >>> (Int32.toUInt32 1 &&& Int32.toUInt32 31)).toInt32) &&& 1431655765)) >>> (Int32.toUInt32 2 &&& Int32.toUInt32 31)).toInt32) &&& 858993459)) >>> (Int32.toUInt32 4 &&& Int32.toUInt32 31)).toInt32)) &&& 252645135) + ((Int32.toUInt32 (((((p0 - (((Int32.toUInt32 p0 >>> (Int32.toUInt32 1 &&& Int32.toUInt32 31)).toInt32) &&& 1431655765)) &&& 858993459) + (((Int32.toUInt32 (p0 - (((Int32.toUInt32 p0 >>> (Int32.toUInt32 1 &&& Int32.toUInt32 31)).toInt32) &&& 1431655765)) >>> (Int32.toUInt32 2 &&& Int32.toUInt32 31)).toInt32) &&& 858993459)) + ((Int32.toUInt32 (((p0 - (((Int32.toUInt32 p0 >>> (Int32.toUInt32 1 &&& Int32.toUInt32 31)).toInt32) &&& 1431655765)) &&& 858993459) + (((Int32.toUInt32 (p0 - (((Int32.toUInt32 p0 >>> (Int32.toUInt32 1 &&& Int32.toUInt32 31)).toInt32) &&& 1431655765)) >>> (Int32.toUInt32 2 &&& Int32.toUInt32 31)).toInt32) &&& 858993459)) >>> (Int32.toUInt32 4 &&& Int32.toUInt32 31)).toInt32)) &&& 252645135) >>> (Int32.toUInt32 8 &&& Int32.toUInt32 31)).toInt32)) + ((Int32.toUInt32 ((((((p0 - (((Int32.toUInt32 p0 >>> (Int32.toUInt32 1 &&& Int32.toUInt32 31)).toInt32) &&& 1431655765)) &&& 858993459) + (((Int32.toUInt32 (p0 - (((Int32.toUInt32 p0 >>> (Int32.toUInt32 1 &&& Int32.toUInt32 31)).toInt32) &&& 1431655765)) >>> (Int32.toUInt32 2 &&& Int32.toUInt32 31)).toInt32) &&& 858993459)) + ((Int32.toUInt32 (((p0 - (((Int32.toUInt32 p0 >>> (Int32.toUInt32 1 &&& Int32.toUInt32 31)).toInt32) &&& 1431655765)) &&& 858993459) + (((Int32.toUInt32 (p0 - (((Int32.toUInt32 p0 >>> (Int32.toUInt32 1 &&& Int32.toUInt32 31)).toInt32) &&& 1431655765)) >>> (Int32.toUInt32 2 &&& Int32.toUInt32 31)).toInt32) &&& 858993459)) >>> (Int32.toUInt32 4 &&& Int32.toUInt32 31)).toInt32)) &&& 252645135) + ((Int32.toUInt32 (((((p0 - (((Int32.toUInt32 p0 >>> (Int32.toUInt32 1 &&& Int32.toUInt32 31)).toInt32) &&& 1431655765)) &&& 858993459) + (((Int32.toUInt32 (p0 - (((Int32.toUInt32 p0 >>> (Int32.toUInt32 1 &&& Int32.toUInt32 31)).toInt32) &&& 1431655765)) >>> (Int32.toUInt32 2 &&& Int32.toUInt32 31)).toInt32) &&& 858993459)) + ((Int32.toUInt32 (((p0 - (((Int32.toUInt32 p0 >>> (Int32.toUInt32 1 &&& Int32.toUInt32 31)).toInt32) &&& 1431655765)) &&& 858993459) + (((Int32.toUInt32 (p0 - (((Int32.toUInt32 p0 >>> (Int32.toUInt32 1 &&& Int32.toUInt32 31)).toInt32) &&& 1431655765)) >>> (Int32.toUInt32 2 &&& Int32.toUInt32 31)).toInt32) &&& 858993459)) >>> (Int32.toUInt32 4 &&& Int32.toUInt32 31)).toInt32)) &&& 252645135) >>> (Int32.toUInt32 8 &&& Int32.toUInt32 31)).toInt32)) >>> (Int32.toUInt32 16 &&& Int32.toUInt32 31)).toInt32)) &&& 63)
def f_L_dropUnheld_2  (p1 : Int32) (sL_2 : St) (x2_2 : Int32) : Option (St × Int32) :=
  (if (sL_2 0 5) ≤ x2_2 then none
  else (if (m_L_holds (sL_2 2 (Int32.toNatClampNeg p1)) (x2_2 - 1)) = 0 then (if (m_L_holds (sL_2 3 (Int32.toNatClampNeg p1)) x2_2) = 0 then some ((up sL_2 2 (Int32.toNatClampNeg p1) ((sL_2 2 (Int32.toNatClampNeg p1)) &&& ((1 <<< (x2_2 &&& 31)) ^^^ (-1)))), (x2_2 + 1))
  else some (sL_2, (x2_2 + 1)))
  else some (sL_2, (x2_2 + 1))))
def g_L_dropUnheld_2  (p1 : Int32) : St × Int32 → Option (St × Int32) := fun v => f_L_dropUnheld_2 p1 v.1 v.2
def b_L_dropUnheld_58 (sL_58 : St) : St :=
  sL_58
def m_L_dropUnheld (sL : St) (p1 : Int32) : St :=
  (b_L_dropUnheld_58 (wl (g_L_dropUnheld_2 p1) 8 (sL, 1)).1)
def m_L_strike (sL : St) (p1 : Int32) (p2 : Int32) (p3 : Int32) : Int32 × St :=
  (if (m_L_stands sL p1 p2) = 0 then (0, sL)
  else (if 0 < ((sL 1 (Int32.toNatClampNeg (m_L_place p1 p2))) - p3) then (((m_J_bitCount (sL 2 (Int32.toNatClampNeg p1))) - (m_J_bitCount ((m_L_dropUnheld (up (up sL 1 (Int32.toNatClampNeg (m_L_place p1 p2)) ((sL 1 (Int32.toNatClampNeg (m_L_place p1 p2))) - p3)) 3 (Int32.toNatClampNeg p1) ((sL 3 (Int32.toNatClampNeg p1)) &&& ((1 <<< (p2 &&& 31)) ^^^ (-1)))) p1) 2 (Int32.toNatClampNeg p1)))), (m_L_dropUnheld (up (up sL 1 (Int32.toNatClampNeg (m_L_place p1 p2)) ((sL 1 (Int32.toNatClampNeg (m_L_place p1 p2))) - p3)) 3 (Int32.toNatClampNeg p1) ((sL 3 (Int32.toNatClampNeg p1)) &&& ((1 <<< (p2 &&& 31)) ^^^ (-1)))) p1))
  else (((m_J_bitCount (sL 2 (Int32.toNatClampNeg p1))) - (m_J_bitCount ((m_L_dropUnheld (up (up (up sL 1 (Int32.toNatClampNeg (m_L_place p1 p2)) ((sL 1 (Int32.toNatClampNeg (m_L_place p1 p2))) - p3)) 3 (Int32.toNatClampNeg p1) ((sL 3 (Int32.toNatClampNeg p1)) &&& ((1 <<< (p2 &&& 31)) ^^^ (-1)))) 2 (Int32.toNatClampNeg p1) ((sL 2 (Int32.toNatClampNeg p1)) &&& ((1 <<< (p2 &&& 31)) ^^^ (-1)))) p1) 2 (Int32.toNatClampNeg p1)))), (m_L_dropUnheld (up (up (up sL 1 (Int32.toNatClampNeg (m_L_place p1 p2)) ((sL 1 (Int32.toNatClampNeg (m_L_place p1 p2))) - p3)) 3 (Int32.toNatClampNeg p1) ((sL 3 (Int32.toNatClampNeg p1)) &&& ((1 <<< (p2 &&& 31)) ^^^ (-1)))) 2 (Int32.toNatClampNeg p1) ((sL 2 (Int32.toNatClampNeg p1)) &&& ((1 <<< (p2 &&& 31)) ^^^ (-1)))) p1))))
def m_L_putLevel (sL : St) (p1 : Int32) : Int32 × St :=
  ((sL 0 6), (up sL 0 6 p1))
def m_L_isOpen (sL : St) (p1 : Int32) : Int32 :=
  (if (sL 0 6) < (m_J_bitCount (sL 2 (Int32.toNatClampNeg p1))) then 0
  else 1)
def f_L_firstOpen_2 (sL : St)  (x1_2 : Int32) : (Int32) ⊕ (Int32) :=
  (if (sL 0 4) ≤ x1_2 then .inr (-9)
  else (if (m_L_isOpen sL x1_2) = 0 then .inl (x1_2 + 1)
  else .inr x1_2))
def g_L_firstOpen_2 (sL : St)  : Int32 → (Int32) ⊕ (Int32) := fun v => f_L_firstOpen_2 sL v
def m_L_firstOpen (sL : St)  : Int32 :=
  (wc (g_L_firstOpen_2 sL) 0 9 0)
def f_L_openColumns_4 (sL : St)  (x1_4 : Int32) (x2_4 : Int32) : Option (Int32 × Int32) :=
  (if (sL 0 4) ≤ x2_4 then none
  else (if (m_L_isOpen sL x2_4) = 0 then some ((x1_4 + 0), (x2_4 + 1))
  else some ((x1_4 + 1), (x2_4 + 1))))
def g_L_openColumns_4 (sL : St)  : Int32 × Int32 → Option (Int32 × Int32) := fun v => f_L_openColumns_4 sL v.1 v.2
def b_L_openColumns_34 (sL : St) (x1_34 : Int32) : Int32 :=
  x1_34
def m_L_openColumns (sL : St)  : Int32 :=
  (b_L_openColumns_34 sL (wl (g_L_openColumns_4 sL) 9 (0, 0)).1)
def f_L_standingCells_4 (sL : St)  (x1_4 : Int32) (x2_4 : Int32) : Option (Int32 × Int32) :=
  (if (sL 0 4) ≤ x2_4 then none
  else some ((x1_4 + (m_J_bitCount (sL 2 (Int32.toNatClampNeg x2_4)))), (x2_4 + 1)))
def g_L_standingCells_4 (sL : St)  : Int32 × Int32 → Option (Int32 × Int32) := fun v => f_L_standingCells_4 sL v.1 v.2
def b_L_standingCells_30 (sL : St) (x1_30 : Int32) : Int32 :=
  x1_30
def m_L_standingCells (sL : St)  : Int32 :=
  (b_L_standingCells_30 sL (wl (g_L_standingCells_4 sL) 9 (0, 0)).1)
def f_L_hitsToKeep_6 (sL : St) (p1 : Int32) (p2 : Int32) (p3 : Int32) (x4_6 : Int32) (x5_6 : Int32) : (Int32 × Int32) ⊕ (Int32) :=
  (if (sL 0 5) ≤ x5_6 then .inr x4_6
  else (if x5_6 ≤ 0 then (if (m_L_holds p2 x5_6) = 0 then (if (m_L_holds (sL 2 (Int32.toNatClampNeg p1)) x5_6) = 0 then .inl (x4_6, (x5_6 + 1))
  else (if (m_L_holds p2 x5_6) = 0 then .inl ((x4_6 + (Int64.toInt32 (m_T_up (Int32.toInt64 (sL 1 (Int32.toNatClampNeg (m_L_place p1 x5_6)))) (Int32.toInt64 p3)))), (x5_6 + 1))
  else .inl (x4_6, (x5_6 + 1))))
  else (if (m_L_holds (sL 2 (Int32.toNatClampNeg p1)) x5_6) = 0 then .inl (x4_6, (x5_6 + 1))
  else (if (m_L_holds p2 x5_6) = 0 then .inl ((x4_6 + (Int64.toInt32 (m_T_up (Int32.toInt64 (sL 1 (Int32.toNatClampNeg (m_L_place p1 x5_6)))) (Int32.toInt64 p3)))), (x5_6 + 1))
  else .inl (x4_6, (x5_6 + 1)))))
  else (if (m_L_holds p2 (x5_6 - 1)) = 0 then (if (m_L_holds (sL 3 (Int32.toNatClampNeg p1)) x5_6) = 0 then (if (m_L_holds p2 x5_6) = 0 then (if (m_L_holds (sL 2 (Int32.toNatClampNeg p1)) x5_6) = 0 then .inl (x4_6, (x5_6 + 1))
  else (if (m_L_holds p2 x5_6) = 0 then .inl (x4_6, (x5_6 + 1))
  else .inl (x4_6, (x5_6 + 1))))
  else .inr 1000000)
  else (if (m_L_holds p2 x5_6) = 0 then (if (m_L_holds (sL 2 (Int32.toNatClampNeg p1)) x5_6) = 0 then .inl (x4_6, (x5_6 + 1))
  else (if (m_L_holds p2 x5_6) = 0 then .inl ((x4_6 + 1), (x5_6 + 1))
  else .inl (x4_6, (x5_6 + 1))))
  else (if (m_L_holds (sL 2 (Int32.toNatClampNeg p1)) x5_6) = 0 then .inl (x4_6, (x5_6 + 1))
  else (if (m_L_holds p2 x5_6) = 0 then .inl ((x4_6 + 1), (x5_6 + 1))
  else .inl (x4_6, (x5_6 + 1))))))
  else (if (m_L_holds p2 x5_6) = 0 then (if (m_L_holds (sL 2 (Int32.toNatClampNeg p1)) x5_6) = 0 then .inl (x4_6, (x5_6 + 1))
  else (if (m_L_holds p2 x5_6) = 0 then .inl ((x4_6 + (Int64.toInt32 (m_T_up (Int32.toInt64 (sL 1 (Int32.toNatClampNeg (m_L_place p1 x5_6)))) (Int32.toInt64 p3)))), (x5_6 + 1))
  else .inl (x4_6, (x5_6 + 1))))
  else (if (m_L_holds (sL 2 (Int32.toNatClampNeg p1)) x5_6) = 0 then .inl (x4_6, (x5_6 + 1))
  else (if (m_L_holds p2 x5_6) = 0 then .inl ((x4_6 + (Int64.toInt32 (m_T_up (Int32.toInt64 (sL 1 (Int32.toNatClampNeg (m_L_place p1 x5_6)))) (Int32.toInt64 p3)))), (x5_6 + 1))
  else .inl (x4_6, (x5_6 + 1))))))))
def g_L_hitsToKeep_6 (sL : St) (p1 : Int32) (p2 : Int32) (p3 : Int32) : Int32 × Int32 → (Int32 × Int32) ⊕ (Int32) := fun v => f_L_hitsToKeep_6 sL p1 p2 p3 v.1 v.2
def m_L_hitsToKeep (sL : St) (p1 : Int32) (p2 : Int32) (p3 : Int32) : Int32 :=
  (wc (g_L_hitsToKeep_6 sL p1 p2 p3) 0 7 (0, 0))
def f_L_hitsToOpen_22 (sL : St) (p1 : Int32) (p2 : Int32) (x3_22 : Int32) (x4_22 : Int32) : Option (Int32 × Int32) :=
  (if (1 <<< ((sL 0 5) &&& 31)) ≤ x4_22 then none
  else (if (x4_22 &&& ((sL 2 (Int32.toNatClampNeg p1)) ^^^ (-1))) = 0 then (if (sL 0 6) < (m_J_bitCount x4_22) then some (x3_22, (x4_22 + 1))
  else some ((if (m_L_hitsToKeep sL p1 x4_22 p2) < x3_22 then (m_L_hitsToKeep sL p1 x4_22 p2) else x3_22), (x4_22 + 1)))
  else some (x3_22, (x4_22 + 1))))
def g_L_hitsToOpen_22 (sL : St) (p1 : Int32) (p2 : Int32) : Int32 × Int32 → Option (Int32 × Int32) := fun v => f_L_hitsToOpen_22 sL p1 p2 v.1 v.2
def b_L_hitsToOpen_90 (sL : St) (x3_90 : Int32) : Int32 :=
  x3_90
def m_L_hitsToOpen (sL : St) (p1 : Int32) (p2 : Int32) : Int32 :=
  (if (m_T_within p1 0 ((sL 0 4) - 1)) = 0 then (-1)
  else (b_L_hitsToOpen_90 sL (wl (g_L_hitsToOpen_22 sL p1 p2) 65 (1000000, 0)).1))
def f_L_soonestColumn_4 (sL : St) (p1 : Int32) (x2_4 : Int32) (x3_4 : Int32) : Option (Int32 × Int32) :=
  (if (sL 0 4) ≤ x3_4 then none
  else (if (m_L_hitsToOpen sL x2_4 p1) ≤ (m_L_hitsToOpen sL x3_4 p1) then some (x2_4, (x3_4 + 1))
  else some (x3_4, (x3_4 + 1))))
def g_L_soonestColumn_4 (sL : St) (p1 : Int32) : Int32 × Int32 → Option (Int32 × Int32) := fun v => f_L_soonestColumn_4 sL p1 v.1 v.2
def b_L_soonestColumn_35 (sL : St) (x2_35 : Int32) : Int32 :=
  x2_35
def m_L_soonestColumn (sL : St) (p1 : Int32) : Int32 :=
  (b_L_soonestColumn_35 sL (wl (g_L_soonestColumn_4 sL p1) 9 (0, 1)).1)
def m_L_weightPlace  (p0 : Int32) (p1 : Int32) : Int32 :=
  ((4 + p0) + (3 * p1))
def m_L_putWeight (sL : St) (p1 : Int32) (p2 : Int32) (p3 : Int32) : Int32 × St :=
  (if (m_T_within (m_L_weightPlace p1 p2) 0 (9 - 1)) = 0 then ((-1), sL)
  else ((sL 4 (Int32.toNatClampNeg (m_L_weightPlace p1 p2))), (up sL 4 (Int32.toNatClampNeg (m_L_weightPlace p1 p2)) p3)))
def m_L_fallsBy (sL : St) (p1 : Int32) (p2 : Int32) (p3 : Int32) : Int32 × St :=
  (if (m_L_stands sL p1 p2) = 0 then (0, sL)
  else ((m_L_strike sL p1 p2 p3).1, (up (up (up (m_L_strike sL p1 p2 p3).2 2 (Int32.toNatClampNeg p1) (sL 2 (Int32.toNatClampNeg p1))) 3 (Int32.toNatClampNeg p1) (sL 3 (Int32.toNatClampNeg p1))) 1 (Int32.toNatClampNeg (m_L_place p1 p2)) (sL 1 (Int32.toNatClampNeg (m_L_place p1 p2))))))
def f_L_worthOf_15  (p1 : Int32) (p2 : Int32) (p3 : Int32) (x5_15 : Int32) (sL_15 : St) (x4_15 : Int32) (x6_15 : Int32) : Option (St × Int32 × Int32) :=
  (if 1 < x6_15 then none
  else some ((m_L_fallsBy sL_15 (p1 + x6_15) (p2 + x5_15) p3).2, (x4_15 + ((sL_15 4 (Int32.toNatClampNeg (m_L_weightPlace x6_15 x5_15))) * (m_L_fallsBy sL_15 (p1 + x6_15) (p2 + x5_15) p3).1)), (x6_15 + 1)))
def g_L_worthOf_15  (p1 : Int32) (p2 : Int32) (p3 : Int32) (x5_15 : Int32) : St × Int32 × Int32 → Option (St × Int32 × Int32) := fun v => f_L_worthOf_15 p1 p2 p3 x5_15 v.1 v.2.1 v.2.2
def b_L_worthOf_58 (sL_58 : St) (p1 : Int32) (p2 : Int32) (p3 : Int32) (x4_58 : Int32) (x5_58 : Int32) : Option (St × Int32 × Int32) :=
  some (sL_58, x4_58, (x5_58 + 1))
def f_L_worthOf_6  (p1 : Int32) (p2 : Int32) (p3 : Int32) (sL_6 : St) (x4_6 : Int32) (x5_6 : Int32) : Option (St × Int32 × Int32) :=
  (if 1 < x5_6 then none
  else (b_L_worthOf_58 (wl (g_L_worthOf_15 p1 p2 p3 x5_6) 4 (sL_6, x4_6, (-1))).1 p1 p2 p3 (wl (g_L_worthOf_15 p1 p2 p3 x5_6) 4 (sL_6, x4_6, (-1))).2.1 x5_6))
def g_L_worthOf_6  (p1 : Int32) (p2 : Int32) (p3 : Int32) : St × Int32 × Int32 → Option (St × Int32 × Int32) := fun v => f_L_worthOf_6 p1 p2 p3 v.1 v.2.1 v.2.2
def b_L_worthOf_64 (sL_64 : St) (x4_64 : Int32) : Int32 × St :=
  (x4_64, sL_64)
def m_L_worthOf (sL : St) (p1 : Int32) (p2 : Int32) (p3 : Int32) : Int32 × St :=
  (b_L_worthOf_64 (wl (g_L_worthOf_6 p1 p2 p3) 4 (sL, 0, (-1))).1 (wl (g_L_worthOf_6 p1 p2 p3) 4 (sL, 0, (-1))).2.1)
def m_L_columnOf (sL : St) (p1 : Int32) : Int32 :=
  (if (sL 0 4) ≤ 0 then 0
  else (p1 - p1 / (sL 0 4) * (sL 0 4)))
def m_L_rowOf (sL : St) (p1 : Int32) : Int32 :=
  (if (sL 0 4) ≤ 0 then 0
  else (p1 / (sL 0 4)))
def f_L_bestAim_7  (p1 : Int32) (sL_7 : St) (x2_7 : Int32) (x3_7 : Int32) (x4_7 : Int32) : Option (St × Int32 × Int32 × Int32) :=
  (if ((sL_7 0 4) * (sL_7 0 5)) ≤ x4_7 then none
  else (if (m_L_worthOf sL_7 (m_L_columnOf sL_7 x4_7) (m_L_rowOf sL_7 x4_7) p1).1 ≤ x3_7 then some ((m_L_worthOf sL_7 (m_L_columnOf sL_7 x4_7) (m_L_rowOf sL_7 x4_7) p1).2, x2_7, x3_7, (x4_7 + 1))
  else some ((m_L_worthOf sL_7 (m_L_columnOf sL_7 x4_7) (m_L_rowOf sL_7 x4_7) p1).2, x4_7, (m_L_worthOf sL_7 (m_L_columnOf sL_7 x4_7) (m_L_rowOf sL_7 x4_7) p1).1, (x4_7 + 1))))
def g_L_bestAim_7  (p1 : Int32) : St × Int32 × Int32 × Int32 → Option (St × Int32 × Int32 × Int32) := fun v => f_L_bestAim_7 p1 v.1 v.2.1 v.2.2.1 v.2.2.2
def b_L_bestAim_58 (sL_58 : St) (x2_58 : Int32) : Int32 × St :=
  (x2_58, sL_58)
def m_L_bestAim (sL : St) (p1 : Int32) : Int32 × St :=
  (b_L_bestAim_58 (wl (g_L_bestAim_7 p1) 49 (sL, 0, (-1), 0)).1 (wl (g_L_bestAim_7 p1) 49 (sL, 0, (-1), 0)).2.1)
def m_T_set (sT : St) (sM : St) (p1 : Int32) (p2 : Int32) : Int32 × St × St :=
  (if (m_M_takes sM p1 p2) = 0 then ((-1), sT, sM)
  else ((m_M_put sM p1 p2).1, (up sT 0 4 0), (m_M_put sM p1 p2).2))
def m_T_wind (sT : St) (sM : St) (p1 : Int32) : Int32 × St :=
  (if (m_T_within p1 (-20) 20) = 0 then ((-100), sM)
  else ((m_M_putWind sM p1).1, (m_M_putWind sM p1).2))
def m_T_sine (sT : St) (p1 : Int32) : Int32 :=
  (if (m_T_within p1 (-180) 180) = 0 then (-2000)
  else (m_T_sineOf p1))
def m_T_throwing (sT : St) (sM : St) (p1 : Int32) : Int32 × St :=
  (if (m_T_within p1 0 6) = 0 then ((-1), sM)
  else ((m_M_reckoned (m_M_reckonOwn sM).2 p1), (m_M_reckonOwn sM).2))
def m_T_flight (sT : St) (vT : Int64) (sM : St) (p1 : Int32) (p2 : Int32) : Int32 × Int64 :=
  (if (m_T_within p1 0 2) = 0 then ((-1), vT)
  else (if (m_T_within p2 0 20000) = 0 then ((-1), vT)
  else ((m_M_flightOf sM p1 p2), (vT + (Int32.toInt64 (m_M_bodiesAsked p1))))))
def m_T_tune (sT : St) (sM : St) (p1 : Int32) (p2 : Int32) (p3 : Int32) (p4 : Int32) : Int32 × St :=
  (if (m_M_takes sM 3 p1) = 0 then ((-1), sM)
  else (if (m_M_takes sM 3 p2) = 0 then ((-1), sM)
  else (if p2 < p1 then ((-1), sM)
  else (if (m_T_within p3 0 2000) = 0 then ((-1), sM)
  else (if (m_T_within p4 0 2) = 0 then ((-1), sM)
  else ((m_M_tuned (m_M_tuneTo sM p1 p2 p3) p4), (m_M_tuneTo sM p1 p2 p3)))))))
def m_T_spread (sT : St) (sB : St) (p1 : Int32) : Int32 × St :=
  (if (m_T_within p1 0 50) = 0 then ((-1), sB)
  else ((m_B_putSpread sB p1).1, (m_B_putSpread sB p1).2))
def m_T_shot (sT : St) (sB : St) (p1 : Int32) (p2 : Int32) : Int32 × St :=
  (if (m_T_within p1 0 60) = 0 then ((-1), sB)
  else (if (m_T_within p2 0 2000) = 0 then ((-1), sB)
  else (if (m_B_tell sB p1 p2).1 = 0 then ((-3), (m_B_tell sB p1 p2).2)
  else ((m_B_told (m_B_tell sB p1 p2).2), (m_B_tell sB p1 p2).2))))
def m_T_clear (sT : St) (sB : St)  : Int32 × St :=
  ((m_B_forgetShots sB).1, (m_B_forgetShots sB).2)
def m_T_left (sT : St) (sM : St) (sB : St)  : Int32 × St × St :=
  ((m_B_pairsLeft (m_B_study sM sB).2), (m_B_study sM sB).1, (m_B_study sM sB).2)
def m_T_span (sT : St) (sM : St) (sB : St) (p1 : Int32) (p2 : Int32) : Int32 × St × St :=
  (if (m_T_within p1 0 60) = 0 then ((-2000), sM, sB)
  else (if (m_T_within p2 0 1) = 0 then ((-2000), sM, sB)
  else (if (m_B_places (m_B_study sM sB).2 p1) = 0 then ((-1000), (m_B_study sM sB).1, (m_B_study sM sB).2)
  else (if p2 = 0 then ((m_B_leastPlace (m_B_study sM sB).2 p1), (m_B_study sM sB).1, (m_B_study sM sB).2)
  else ((m_B_greatestPlace (m_B_study sM sB).2 p1), (m_B_study sM sB).1, (m_B_study sM sB).2)))))
def m_T_next (sT : St) (sM : St) (sB : St)  : Int32 × St × St :=
  ((m_B_widestHook (m_B_study sM sB).2), (m_B_study sM sB).1, (m_B_study sM sB).2)
def m_T_surest (sT : St) (sM : St) (sB : St) (p1 : Int32) (p2 : Int32) : Int32 × St × St :=
  (if (m_T_within p1 0 2000) = 0 then ((-1), sM, sB)
  else (if (m_T_within p2 0 1) = 0 then ((-1), sM, sB)
  else (if (m_B_surestHook (m_B_study sM sB).2 p1) = (-9) then ((m_B_surestHook (m_B_study sM sB).2 p1), (m_B_study sM sB).1, (m_B_study sM sB).2)
  else (if p2 = 0 then ((m_B_surestHook (m_B_study sM sB).2 p1), (m_B_study sM sB).1, (m_B_study sM sB).2)
  else ((m_B_farthestMiss (m_B_study sM sB).2 (m_B_surestHook (m_B_study sM sB).2 p1) p1), (m_B_study sM sB).1, (m_B_study sM sB).2)))))
def m_T_wall (sT : St) (sL : St) (p1 : Int32) (p2 : Int32) : Int32 × St :=
  (if (m_T_within p1 1 8) = 0 then ((-1), sL)
  else (if (m_T_within p2 1 6) = 0 then ((-1), sL)
  else ((p1 * p2), (m_L_build sL p1 p2))))
def m_T_strength (sT : St) (sL : St) (p1 : Int32) (p2 : Int32) (p3 : Int32) : Int32 × St :=
  (if (m_L_has sL p1 p2) = 0 then ((-1), sL)
  else (if (m_T_within p3 1 99) = 0 then ((-1), sL)
  else (if (m_L_stands sL p1 p2) = 0 then ((-2), sL)
  else ((m_L_putStrength sL p1 p2 p3).1, (m_L_putStrength sL p1 p2 p3).2))))
def m_T_prop (sT : St) (sL : St) (p1 : Int32) (p2 : Int32) : Int32 × St :=
  (if (m_L_has sL p1 p2) = 0 then ((-1), sL)
  else (if (m_L_stands sL p1 p2) = 0 then ((-2), sL)
  else ((m_L_putProp sL p1 p2).1, (m_L_putProp sL p1 p2).2)))
def m_T_hit (sT : St) (sL : St) (p1 : Int32) (p2 : Int32) (p3 : Int32) : Int32 × St :=
  (if (m_L_has sL p1 p2) = 0 then ((-1), sL)
  else (if (m_T_within p3 1 99) = 0 then ((-1), sL)
  else (if (m_L_stands sL p1 p2) = 0 then ((-2), sL)
  else ((m_L_strike sL p1 p2 p3).1, (m_L_strike sL p1 p2 p3).2))))
def m_T_cell (sT : St) (sL : St) (p1 : Int32) (p2 : Int32) (p3 : Int32) : Int32 :=
  (if (m_L_has sL p1 p2) = 0 then (-1)
  else (if p3 = 0 then (if (m_L_stands sL p1 p2) = 0 then 0
  else 1)
  else (if p3 = 1 then (m_L_strengthAt sL p1 p2)
  else (if p3 = 2 then (if (m_L_isPropped sL p1 p2) = 0 then 0
  else 1)
  else (-1)))))
def m_T_level (sT : St) (sL : St) (p1 : Int32) : Int32 × St :=
  (if (m_T_within p1 0 2) = 0 then ((-1), sL)
  else ((m_L_putLevel sL p1).1, (m_L_putLevel sL p1).2))
def m_T_open (sT : St) (sL : St)  : Int32 :=
  (m_L_firstOpen sL)
def m_T_soonest (sT : St) (sL : St) (p1 : Int32) (p2 : Int32) : Int32 :=
  (if (m_T_within p1 1 99) = 0 then (-1)
  else (if (m_T_within p2 0 1) = 0 then (-1)
  else (if p2 = 0 then (m_L_soonestColumn sL p1)
  else (m_L_hitsToOpen sL (m_L_soonestColumn sL p1) p1))))
def m_T_scatter (sT : St) (sL : St) (p1 : Int32) (p2 : Int32) (p3 : Int32) : Int32 × St :=
  (if (m_T_within p1 (-1) 1) = 0 then ((-1), sL)
  else (if (m_T_within p2 (-1) 1) = 0 then ((-1), sL)
  else (if (m_T_within p3 0 9) = 0 then ((-1), sL)
  else ((m_L_putWeight sL p1 p2 p3).1, (m_L_putWeight sL p1 p2 p3).2))))
def m_T_worth (sT : St) (sL : St) (p1 : Int32) (p2 : Int32) (p3 : Int32) : Int32 × St :=
  (if (m_L_has sL p1 p2) = 0 then ((-1), sL)
  else (if (m_T_within p3 1 99) = 0 then ((-1), sL)
  else ((m_L_worthOf sL p1 p2 p3).1, (m_L_worthOf sL p1 p2 p3).2)))
def m_T_aim (sT : St) (sL : St) (p1 : Int32) (p2 : Int32) : Int32 × St :=
  (if (m_T_within p1 1 99) = 0 then ((-1), sL)
  else (if (m_T_within p2 0 1) = 0 then ((-1), sL)
  else (if p2 = 0 then ((m_L_bestAim sL p1).1, (m_L_bestAim sL p1).2)
  else ((m_L_worthOf (m_L_bestAim sL p1).2 (m_L_columnOf (m_L_bestAim sL p1).2 (m_L_bestAim sL p1).1) (m_L_rowOf (m_L_bestAim sL p1).2 (m_L_bestAim sL p1).1) p1).1, (m_L_worthOf (m_L_bestAim sL p1).2 (m_L_columnOf (m_L_bestAim sL p1).2 (m_L_bestAim sL p1).1) (m_L_rowOf (m_L_bestAim sL p1).2 (m_L_bestAim sL p1).1) p1).2))))
def m_T_wound (sT : St)  : Int32 × St :=
  (if (sT 0 4) = 0 then (1, (up sT 0 4 1))
  else ((-2), sT))
def m_T_sling (sT : St)  : Int32 × St :=
  (if (sT 0 4) = 1 then (2, (up sT 0 4 2))
  else ((-2), sT))
def m_T_near (sT : St) (p1 : Int32) : Int32 × St :=
  (if (m_T_within p1 0 200) = 0 then ((-1), sT)
  else (if (sT 0 4) = 2 then (if p1 = 0 then (3, (up sT 0 4 3))
  else (2, (up sT 0 4 2)))
  else (if (sT 0 4) = 3 then (if p1 = 0 then (3, (up sT 0 4 3))
  else (2, (up sT 0 4 2)))
  else ((sT 0 4), sT))))
def m_T_loose (sT : St) (sM : St) (sL : St) (sS : St) (p1 : Int32) (p2 : Int32) (p3 : Int32) : Int32 × St × St × St × St :=
  (if (m_L_has sL p1 p2) = 0 then ((-1), sT, sM, sL, sS)
  else (if (m_T_within p3 0 2000) = 0 then ((-1), sT, sM, sL, sS)
  else (if (sT 0 4) = 3 then (if (m_S_stones sS) = 0 then ((-2), sT, sM, sL, sS)
  else (if (m_M_reckonOwn sM).1 = (-9) then ((-3), (up (up sT 0 4 0) 0 5 ((sT 0 5) + 1)), (m_M_reckonOwn sM).2, sL, (m_S_spendStone sS))
  else (if (m_L_stands sL p1 p2) = 0 then ((m_M_reckonOwn sM).1, (up (up sT 0 4 0) 0 5 ((sT 0 5) + 1)), (m_M_reckonOwn sM).2, sL, (m_S_spendStone sS))
  else (if 5 < (if 0 ≤ ((m_M_reckonOwn sM).1 - p3) then ((m_M_reckonOwn sM).1 - p3) else 0 - ((m_M_reckonOwn sM).1 - p3)) then ((m_M_reckonOwn sM).1, (up (up sT 0 4 0) 0 5 ((sT 0 5) + 1)), (m_M_reckonOwn sM).2, sL, (m_S_spendStone sS))
  else ((m_M_reckonOwn sM).1, (up (up sT 0 4 0) 0 5 ((sT 0 5) + 1)), (m_M_reckonOwn sM).2, (m_L_strike sL p1 p2 (m_M_forceAt (m_M_reckonOwn sM).2 (m_M_reckonOwn sM).1)).2, (m_S_spendStone sS))))))
  else ((-2), sT, sM, sL, sS))))
def m_T_store (sT : St) (sS : St) (p1 : Int32) (p2 : Int32) : Int32 × St :=
  (if (m_S_takes sS p1 p2) = 0 then ((-1), sS)
  else ((m_S_put sS p1 p2).1, (m_S_put sS p1 p2).2))
def m_T_wet (sT : St) (sS : St) (p1 : Int32) (p2 : Int32) : Int32 × St :=
  (if (m_T_within p1 1 20) = 0 then ((-1), sS)
  else (if (m_T_within p2 0 ((1 <<< (p1 &&& 31)) - 1)) = 0 then ((-1), sS)
  else (p1, (m_S_putWet sS p1 p2))))
def m_T_lasts (sT : St) (sM : St) (sS : St) (p1 : Int32) : Int32 :=
  (if (m_T_within p1 0 60) = 0 then (-1)
  else (m_S_wholeDays sS p1 (m_M_turnsOfShot sM) 100))
def m_T_rate (sT : St) (sM : St) (sS : St) (p1 : Int32) : Int32 :=
  (if (m_T_within p1 1 100) = 0 then (-1)
  else (m_S_bestRate sS p1 (m_M_turnsOfShot sM)))
def m_T_count (sT : St) (sB : St) (sL : St) (sS : St) (p1 : Int32) : Int32 :=
  (if p1 = 0 then (sT 0 4)
  else (if p1 = 1 then (m_L_wide sL)
  else (if p1 = 2 then (m_L_high sL)
  else (if p1 = 3 then (m_L_standingCells sL)
  else (if p1 = 4 then (m_B_told sB)
  else (if p1 = 5 then (sT 0 5)
  else (if p1 = 6 then (m_S_stones sS)
  else (if p1 = 7 then (m_L_openColumns sL)
  else (-1)))))))))
def m_T_trace (sT : St) (vT : Int64)  : Int64 :=
  vT
def m_R_in  (p0 : Int32) (p1 : Int32) (p2 : Int32) : Int32 :=
  (if p0 < p1 then 0
  else (if p2 < p0 then 0
  else 1))
def m_R_size  (p0 : Int32) : Int32 :=
  (if 0 ≤ p0 then p0
  else (-p0))
def m_R_least  (p0 : Int32) : Int32 :=
  (if p0 = 0 then 5
  else (if p0 = 1 then 20
  else (if p0 = 2 then 100
  else (if p0 = 3 then 10
  else (if p0 = 5 then 10
  else (if p0 = 7 then 1
  else 0))))))
def m_R_most  (p0 : Int32) : Int32 :=
  (if p0 = 0 then 40
  else (if p0 = 1 then 160
  else (if p0 = 3 then 160
  else (if p0 = 2 then 9000
  else (if p0 = 4 then 60
  else (if p0 = 5 then 60
  else (if p0 = 6 then 900
  else (if p0 = 7 then 300
  else 2))))))))
def m_R_set (sR : St) (p1 : Int32) (p2 : Int32) : Int32 × St :=
  (if (m_R_in p1 0 8) = 0 then ((-1), sR)
  else (if (m_R_in p2 (m_R_least p1) (m_R_most p1)) = 0 then ((-1), sR)
  else ((sR 1 (Int32.toNatClampNeg p1)), (up (up sR 1 (Int32.toNatClampNeg p1) p2) 0 13 0))))
def m_R_wind (sR : St) (p1 : Int32) : Int32 × St :=
  (if (m_R_in p1 (-20) 20) = 0 then ((-100), sR)
  else ((sR 0 1), (up sR 0 1 p1)))
def m_R_sineOf  (p0 : Int32) : Int32 :=
  (if 0 ≤ p0 then ((4000 * ((m_R_size p0) * (180 - (m_R_size p0)))) / (40500 - ((m_R_size p0) * (180 - (m_R_size p0)))))
  else (-((4000 * ((m_R_size p0) * (180 - (m_R_size p0)))) / (40500 - ((m_R_size p0) * (180 - (m_R_size p0)))))))
def m_R_sine (sR : St) (p1 : Int32) : Int32 :=
  (if (m_R_in p1 (-180) 180) = 0 then (-2000)
  else (m_R_sineOf p1))
def m_R_givenAt (sR : St) (p1 : Int32) : Int32 :=
  (if 0 ≤ (lg_cmp ((Int32.toInt64 (((sR 1 2) * (sR 1 0)) - ((sR 1 7) * (sR 1 1)))) * (Int32.toInt64 ((m_R_sineOf (p1 - (sR 1 5))) + (m_R_sineOf (sR 1 5))))) 0) then ((Int64.toInt32 ((((Int32.toInt64 (((sR 1 2) * (sR 1 0)) - ((sR 1 7) * (sR 1 1)))) * (Int32.toInt64 ((m_R_sineOf (p1 - (sR 1 5))) + (m_R_sineOf (sR 1 5))))) / 1000) - 0)) - ((sR 1 6) * p1))
  else (if (lg_cmp (((Int32.toInt64 (((sR 1 2) * (sR 1 0)) - ((sR 1 7) * (sR 1 1)))) * (Int32.toInt64 ((m_R_sineOf (p1 - (sR 1 5))) + (m_R_sineOf (sR 1 5))))) - ((Int32.toInt64 (((sR 1 2) * (sR 1 0)) - ((sR 1 7) * (sR 1 1)))) * (Int32.toInt64 ((m_R_sineOf (p1 - (sR 1 5))) + (m_R_sineOf (sR 1 5))))) / 1000 * 1000) 0) = 0 then ((Int64.toInt32 ((((Int32.toInt64 (((sR 1 2) * (sR 1 0)) - ((sR 1 7) * (sR 1 1)))) * (Int32.toInt64 ((m_R_sineOf (p1 - (sR 1 5))) + (m_R_sineOf (sR 1 5))))) / 1000) - 0)) - ((sR 1 6) * p1))
  else ((Int64.toInt32 ((((Int32.toInt64 (((sR 1 2) * (sR 1 0)) - ((sR 1 7) * (sR 1 1)))) * (Int32.toInt64 ((m_R_sineOf (p1 - (sR 1 5))) + (m_R_sineOf (sR 1 5))))) / 1000) - 1)) - ((sR 1 6) * p1))))
def b_R_flightOf_65 (sR : St) (x3_65 : Int32) : Int32 :=
  (if 0 ≤ x3_65 then x3_65
  else 0)
def b_R_flightOf_49 (sR : St) (p1 : Int32) (x3_49 : Int32) : Int32 :=
  (if p1 = 2 then (b_R_flightOf_65 sR (x3_49 - (((x3_49 / 25) * 2) + 3)))
  else x3_49)
def b_R_flightOf_31 (sR : St) (p1 : Int32) (x3_31 : Int32) : Int32 :=
  (if p1 ≤ 0 then (b_R_flightOf_49 sR p1 x3_31)
  else (b_R_flightOf_49 sR p1 (x3_31 - ((x3_31 + 7) / 8))))
def b_R_flightOf_21 (sR : St) (p1 : Int32) (x3_21 : Int32) : Int32 :=
  (if 0 ≤ x3_21 then (b_R_flightOf_31 sR p1 x3_21)
  else (b_R_flightOf_31 sR p1 0))
def m_R_flightOf (sR : St) (p1 : Int32) (p2 : Int32) : Int32 :=
  (b_R_flightOf_21 sR p1 (p2 - ((p2 * p2) / ((20 * (sR 1 7)) + 2000))))
def f_R_step_44  (p1 : Int32) (p2 : Int32) (sR_44 : St) (x3_44 : Int32) : Option (St × Int32) :=
  (if 160 < x3_44 then none
  else (if (sR_44 0 19) = (-9) then (if (sR_44 0 20) = (-9) then (if 0 < (m_R_givenAt sR_44 x3_44) then (if ((x3_44 * ((sR_44 1 1) + (2 * p1))) / (2 * p1)) < (100 + p2) then some (sR_44, (x3_44 + 1))
  else some ((up (up sR_44 0 19 x3_44) 0 21 (m_R_givenAt sR_44 x3_44)), (x3_44 + 1)))
  else some ((up sR_44 0 20 x3_44), (x3_44 + 1)))
  else none)
  else none))
def g_R_step_44  (p1 : Int32) (p2 : Int32) : St × Int32 → Option (St × Int32) := fun v => f_R_step_44 p1 p2 v.1 v.2
def b_R_step_302 (sR_302 : St) (x5_302 : Int32) : St :=
  (if 0 ≤ x5_302 then (up sR_302 0 25 x5_302)
  else (up sR_302 0 25 0))
def b_R_step_270 (sR_270 : St) : St :=
  (b_R_step_302 sR_270 ((m_R_flightOf sR_270 (sR_270 1 8) (sR_270 0 24)) + (((sR_270 0 1) * (m_R_flightOf sR_270 (sR_270 1 8) (sR_270 0 24))) / 100)))
def b_R_step_245 (sR_245 : St) : St :=
  (b_R_step_270 (up sR_245 0 24 (Int64.toInt32 (((Int32.toInt64 (sR_245 0 23)) * (Int32.toInt64 (m_R_sineOf (2 * (sR_245 0 22))))) / 8000))))
def b_R_step_194 (sR_194 : St) (x3_194 : Int64) : St :=
  (b_R_step_245 (up sR_194 0 23 (Int64.toInt32 (((2 * (Int32.toInt64 (sR_194 0 21))) * x3_194) / ((((Int32.toInt64 (sR_194 1 2)) * (Int32.toInt64 (sR_194 1 0))) * (Int32.toInt64 (sR_194 1 0))) + ((Int32.toInt64 (sR_194 1 7)) * x3_194))))))
def b_R_step_129 (sR_129 : St) (p1 : Int32) (p2 : Int32) : St :=
  (if (sR_129 0 19) = (-9) then sR_129
  else (if (m_R_in ((180 - ((sR_129 0 19) - (sR_129 1 5))) - p2) 1 89) = 0 then (up sR_129 0 22 ((180 - ((sR_129 0 19) - (sR_129 1 5))) - p2))
  else (b_R_step_194 (up sR_129 0 22 ((180 - ((sR_129 0 19) - (sR_129 1 5))) - p2)) ((Int32.toInt64 ((sR_129 1 1) + p1)) * (Int32.toInt64 ((sR_129 1 1) + p1))))))
def m_R_step (sR : St) (p1 : Int32) (p2 : Int32) : St :=
  (b_R_step_129 (wl (g_R_step_44 p1 p2) 161 ((up (up (up (up (up (up (up sR 0 19 (-9)) 0 20 (-9)) 0 21 (-9)) 0 22 (-9)) 0 23 (-9)) 0 24 (-9)) 0 25 (-9)), 1)).1 p1 p2)
def m_R_throwing (sR : St) (p1 : Int32) : Int32 × St :=
  (if p1 = 0 then (((m_R_step sR (sR 1 3) (sR 1 4)) 0 19), (m_R_step sR (sR 1 3) (sR 1 4)))
  else (if p1 = 1 then (((m_R_step sR (sR 1 3) (sR 1 4)) 0 20), (m_R_step sR (sR 1 3) (sR 1 4)))
  else (if p1 = 2 then (((m_R_step sR (sR 1 3) (sR 1 4)) 0 21), (m_R_step sR (sR 1 3) (sR 1 4)))
  else (if p1 = 3 then (((m_R_step sR (sR 1 3) (sR 1 4)) 0 22), (m_R_step sR (sR 1 3) (sR 1 4)))
  else (if p1 = 4 then (((m_R_step sR (sR 1 3) (sR 1 4)) 0 23), (m_R_step sR (sR 1 3) (sR 1 4)))
  else (if p1 = 5 then (((m_R_step sR (sR 1 3) (sR 1 4)) 0 24), (m_R_step sR (sR 1 3) (sR 1 4)))
  else (if p1 = 6 then (((m_R_step sR (sR 1 3) (sR 1 4)) 0 25), (m_R_step sR (sR 1 3) (sR 1 4)))
  else ((-1), (m_R_step sR (sR 1 3) (sR 1 4))))))))))
def m_R_flight (sR : St) (vR : Int64) (p1 : Int32) (p2 : Int32) : Int32 × Int64 :=
  (if (m_R_in p1 0 2) = 0 then ((-1), vR)
  else (if (m_R_in p2 0 20000) = 0 then ((-1), vR)
  else (if p1 = 0 then ((m_R_flightOf sR p1 p2), (vR + 1))
  else (if p1 = 1 then ((m_R_flightOf sR p1 p2), (vR + 11))
  else ((m_R_flightOf sR p1 p2), (vR + 111))))))
def f_R_tune_70  (p3 : Int32) (x8_70 : Int32) (sR_70 : St) (x5_70 : Int32) (x6_70 : Int32) (x7_70 : Int32) (x9_70 : Int32) : Option (St × Int32 × Int32 × Int32 × Int32) :=
  (if 61 ≤ x9_70 then none
  else (if ((m_R_step sR_70 x8_70 x9_70) 0 25) = (-9) then some ((m_R_step sR_70 x8_70 x9_70), x5_70, x6_70, x7_70, (x9_70 + 1))
  else (if x5_70 = (-9) then some ((m_R_step sR_70 x8_70 x9_70), x8_70, x9_70, ((m_R_step sR_70 x8_70 x9_70) 0 25), (x9_70 + 1))
  else (if (m_R_size (x7_70 - p3)) ≤ (m_R_size (((m_R_step sR_70 x8_70 x9_70) 0 25) - p3)) then some ((m_R_step sR_70 x8_70 x9_70), x5_70, x6_70, x7_70, (x9_70 + 1))
  else some ((m_R_step sR_70 x8_70 x9_70), x8_70, x9_70, ((m_R_step sR_70 x8_70 x9_70) 0 25), (x9_70 + 1))))))
def g_R_tune_70  (p3 : Int32) (x8_70 : Int32) : St × Int32 × Int32 × Int32 × Int32 → Option (St × Int32 × Int32 × Int32 × Int32) := fun v => f_R_tune_70 p3 x8_70 v.1 v.2.1 v.2.2.1 v.2.2.2.1 v.2.2.2.2
def b_R_tune_140 (sR_140 : St) (p2 : Int32) (p3 : Int32) (x5_140 : Int32) (x6_140 : Int32) (x7_140 : Int32) (x8_140 : Int32) : Option (St × Int32 × Int32 × Int32 × Int32) :=
  some (sR_140, x5_140, x6_140, x7_140, (x8_140 + 1))
def f_R_tune_61  (p2 : Int32) (p3 : Int32) (sR_61 : St) (x5_61 : Int32) (x6_61 : Int32) (x7_61 : Int32) (x8_61 : Int32) : Option (St × Int32 × Int32 × Int32 × Int32) :=
  (if p2 < x8_61 then none
  else (b_R_tune_140 (wl (g_R_tune_70 p3 x8_61) 62 (sR_61, x5_61, x6_61, x7_61, 0)).1 p2 p3 (wl (g_R_tune_70 p3 x8_61) 62 (sR_61, x5_61, x6_61, x7_61, 0)).2.1 (wl (g_R_tune_70 p3 x8_61) 62 (sR_61, x5_61, x6_61, x7_61, 0)).2.2.1 (wl (g_R_tune_70 p3 x8_61) 62 (sR_61, x5_61, x6_61, x7_61, 0)).2.2.2.1 x8_61))
def g_R_tune_61  (p2 : Int32) (p3 : Int32) : St × Int32 × Int32 × Int32 × Int32 → Option (St × Int32 × Int32 × Int32 × Int32) := fun v => f_R_tune_61 p2 p3 v.1 v.2.1 v.2.2.1 v.2.2.2.1 v.2.2.2.2
def b_R_tune_146 (sR_146 : St) (p4 : Int32) (x5_146 : Int32) (x6_146 : Int32) (x7_146 : Int32) : Int32 × St :=
  (if p4 = 0 then (x5_146, sR_146)
  else (if p4 = 1 then (x6_146, sR_146)
  else (x7_146, sR_146)))
def m_R_tune (sR : St) (p1 : Int32) (p2 : Int32) (p3 : Int32) (p4 : Int32) : Int32 × St :=
  (if (m_R_in p1 10 160) = 0 then ((-1), sR)
  else (if (m_R_in p2 p1 160) = 0 then ((-1), sR)
  else (if (m_R_in p3 0 2000) = 0 then ((-1), sR)
  else (if (m_R_in p4 0 2) = 0 then ((-1), sR)
  else (b_R_tune_146 (wl (g_R_tune_61 p2 p3) 152 (sR, (-9), (-9), (-9), p1)).1 p4 (wl (g_R_tune_61 p2 p3) 152 (sR, (-9), (-9), (-9), p1)).2.1 (wl (g_R_tune_61 p2 p3) 152 (sR, (-9), (-9), (-9), p1)).2.2.1 (wl (g_R_tune_61 p2 p3) 152 (sR, (-9), (-9), (-9), p1)).2.2.2.1)))))
def m_R_spread (sR : St) (p1 : Int32) : Int32 × St :=
  (if (m_R_in p1 0 50) = 0 then ((-1), sR)
  else ((sR 0 2), (up sR 0 2 p1)))
def m_R_shot (sR : St) (p1 : Int32) (p2 : Int32) : Int32 × St :=
  (if (m_R_in p1 0 60) = 0 then ((-1), sR)
  else (if (m_R_in p2 0 2000) = 0 then ((-1), sR)
  else (if (sR 0 3) = 16 then ((-3), sR)
  else (((sR 0 3) + 1), (up (up (up sR 5 (Int32.toNatClampNeg (sR 0 3)) p1) 6 (Int32.toNatClampNeg (sR 0 3)) p2) 0 3 ((sR 0 3) + 1))))))
def m_R_clear (sR : St)  : Int32 × St :=
  ((sR 0 3), (up sR 0 3 0))
def m_R_lands  (p0 : Int32) (p1 : Int32) : Int32 :=
  ((((p0 * (85 + (p1 / 25))) / 100) + (p1 - p1 / 25 * 25)) - 12)
def f_R_findLeft_55  (x2_55 : Int32) (sR_55 : St) (x3_55 : Int32) : Option (St × Int32) :=
  (if (sR_55 0 3) ≤ x3_55 then none
  else (if (sR_55 27 (Int32.toNatClampNeg (sR_55 5 (Int32.toNatClampNeg x3_55)))) = (-9) then some ((up sR_55 28 (Int32.toNatClampNeg x2_55) 0), (x3_55 + 1))
  else (if (m_R_size ((m_R_lands (sR_55 27 (Int32.toNatClampNeg (sR_55 5 (Int32.toNatClampNeg x3_55)))) x2_55) - (sR_55 6 (Int32.toNatClampNeg x3_55)))) ≤ (sR_55 0 2) then some ((up sR_55 28 (Int32.toNatClampNeg x2_55) (sR_55 28 (Int32.toNatClampNeg x2_55))), (x3_55 + 1))
  else some ((up sR_55 28 (Int32.toNatClampNeg x2_55) 0), (x3_55 + 1)))))
def g_R_findLeft_55  (x2_55 : Int32) : St × Int32 → Option (St × Int32) := fun v => f_R_findLeft_55 x2_55 v.1 v.2
def f_R_findLeft_2   (sR_2 : St) (x1_2 : Int32) : Option (St × Int32) :=
  (if 61 ≤ x1_2 then none
  else some ((up (m_R_step sR_2 (sR_2 1 3) x1_2) 27 (Int32.toNatClampNeg x1_2) ((m_R_step sR_2 (sR_2 1 3) x1_2) 0 25)), (x1_2 + 1)))
def g_R_findLeft_2   : St × Int32 → Option (St × Int32) := fun v => f_R_findLeft_2 v.1 v.2
def b_R_findLeft_128 (sR_128 : St) (x1_128 : Int32) (x2_128 : Int32) : Option (St × Int32 × Int32) :=
  some (sR_128, (x1_128 + (sR_128 28 (Int32.toNatClampNeg x2_128))), (x2_128 + 1))
def f_R_findLeft_39   (sR_39 : St) (x1_39 : Int32) (x2_39 : Int32) : Option (St × Int32 × Int32) :=
  (if 775 ≤ x2_39 then none
  else (b_R_findLeft_128 (wl (g_R_findLeft_55 x2_39) 17 ((up sR_39 28 (Int32.toNatClampNeg x2_39) 1), 0)).1 x1_39 x2_39))
def g_R_findLeft_39   : St × Int32 × Int32 → Option (St × Int32 × Int32) := fun v => f_R_findLeft_39 v.1 v.2.1 v.2.2
def b_R_findLeft_143 (sR_143 : St) (x1_143 : Int32) : Int32 × St :=
  (x1_143, sR_143)
def b_R_findLeft_35 (sR_35 : St) : Int32 × St :=
  (b_R_findLeft_143 (wl g_R_findLeft_39 776 (sR_35, 0, 0)).1 (wl g_R_findLeft_39 776 (sR_35, 0, 0)).2.1)
def m_R_findLeft (sR : St)  : Int32 × St :=
  (b_R_findLeft_35 (wl g_R_findLeft_2 62 (sR, 0)).1)
def m_R_left (sR : St)  : Int32 × St :=
  ((m_R_findLeft sR).1, (m_R_findLeft sR).2)
def f_R_spanOf_7 (sR : St) (p1 : Int32) (p2 : Int32) (x3_7 : Int32) (x4_7 : Int32) : Option (Int32 × Int32) :=
  (if 775 ≤ x4_7 then none
  else (if (sR 28 (Int32.toNatClampNeg x4_7)) = 1 then (if (sR 27 (Int32.toNatClampNeg p1)) = (-9) then some (x3_7, (x4_7 + 1))
  else (if x3_7 = (-1000) then some ((m_R_lands (sR 27 (Int32.toNatClampNeg p1)) x4_7), (x4_7 + 1))
  else (if p2 = 0 then (if x3_7 ≤ (m_R_lands (sR 27 (Int32.toNatClampNeg p1)) x4_7) then some (x3_7, (x4_7 + 1))
  else some ((m_R_lands (sR 27 (Int32.toNatClampNeg p1)) x4_7), (x4_7 + 1)))
  else (if (m_R_lands (sR 27 (Int32.toNatClampNeg p1)) x4_7) ≤ x3_7 then some (x3_7, (x4_7 + 1))
  else some ((m_R_lands (sR 27 (Int32.toNatClampNeg p1)) x4_7), (x4_7 + 1))))))
  else some (x3_7, (x4_7 + 1))))
def g_R_spanOf_7 (sR : St) (p1 : Int32) (p2 : Int32) : Int32 × Int32 → Option (Int32 × Int32) := fun v => f_R_spanOf_7 sR p1 p2 v.1 v.2
def b_R_spanOf_89 (sR : St) (x3_89 : Int32) : Int32 :=
  x3_89
def m_R_spanOf (sR : St) (p1 : Int32) (p2 : Int32) : Int32 :=
  (b_R_spanOf_89 sR (wl (g_R_spanOf_7 sR p1 p2) 776 ((-1000), 0)).1)
def m_R_span (sR : St) (p1 : Int32) (p2 : Int32) : Int32 × St :=
  (if (m_R_in p1 0 60) = 0 then ((-2000), sR)
  else (if (m_R_in p2 0 1) = 0 then ((-2000), sR)
  else (if (m_R_findLeft sR).1 = 0 then ((-1000), (m_R_findLeft sR).2)
  else (if p2 = 1 then ((m_R_spanOf (m_R_findLeft sR).2 p1 1), (m_R_findLeft sR).2)
  else ((m_R_spanOf (m_R_findLeft sR).2 p1 0), (m_R_findLeft sR).2)))))
def f_R_next_17 (sR_17 : St)  (x1_17 : Int32) (x2_17 : Int32) (x3_17 : Int32) : Option (Int32 × Int32 × Int32) :=
  (if 61 ≤ x3_17 then none
  else (if (sR_17 27 (Int32.toNatClampNeg x3_17)) = (-9) then (if (-1) ≤ x2_17 then (if (-1) ≤ x2_17 then some (x1_17, x2_17, (x3_17 + 1))
  else some (x1_17, (-1), (x3_17 + 1)))
  else (if (-1) ≤ x2_17 then some (x3_17, x2_17, (x3_17 + 1))
  else some (x3_17, (-1), (x3_17 + 1))))
  else (if ((m_R_spanOf sR_17 x3_17 1) - (m_R_spanOf sR_17 x3_17 0)) ≤ x2_17 then (if ((m_R_spanOf sR_17 x3_17 1) - (m_R_spanOf sR_17 x3_17 0)) ≤ x2_17 then some (x1_17, x2_17, (x3_17 + 1))
  else some (x1_17, ((m_R_spanOf sR_17 x3_17 1) - (m_R_spanOf sR_17 x3_17 0)), (x3_17 + 1)))
  else (if ((m_R_spanOf sR_17 x3_17 1) - (m_R_spanOf sR_17 x3_17 0)) ≤ x2_17 then some (x3_17, x2_17, (x3_17 + 1))
  else some (x3_17, ((m_R_spanOf sR_17 x3_17 1) - (m_R_spanOf sR_17 x3_17 0)), (x3_17 + 1))))))
def g_R_next_17 (sR_17 : St)  : Int32 × Int32 × Int32 → Option (Int32 × Int32 × Int32) := fun v => f_R_next_17 sR_17 v.1 v.2.1 v.2.2
def b_R_next_84 (sR_84 : St) (x1_84 : Int32) : Int32 × St :=
  (x1_84, sR_84)
def m_R_next (sR : St)  : Int32 × St :=
  (if (m_R_findLeft sR).1 = 0 then ((-9), (m_R_findLeft sR).2)
  else (b_R_next_84 (m_R_findLeft sR).2 (wl (g_R_next_17 (m_R_findLeft sR).2) 62 ((-9), (-1), 0)).1))
def f_R_surest_42 (sR_42 : St) (p1 : Int32) (x3_42 : Int32) (x4_42 : Int32) (x5_42 : Int32) : Option (Int32 × Int32 × Int32) :=
  (if 61 ≤ x5_42 then none
  else (if (sR_42 27 (Int32.toNatClampNeg x5_42)) = (-9) then some (x3_42, x4_42, (x5_42 + 1))
  else (if (m_R_size ((m_R_spanOf sR_42 x5_42 1) - p1)) ≤ (m_R_size ((m_R_spanOf sR_42 x5_42 0) - p1)) then (if x3_42 = (-9) then some (x5_42, (m_R_size ((m_R_spanOf sR_42 x5_42 0) - p1)), (x5_42 + 1))
  else (if x4_42 ≤ (m_R_size ((m_R_spanOf sR_42 x5_42 0) - p1)) then some (x3_42, x4_42, (x5_42 + 1))
  else some (x5_42, (m_R_size ((m_R_spanOf sR_42 x5_42 0) - p1)), (x5_42 + 1))))
  else (if x3_42 = (-9) then some (x5_42, (m_R_size ((m_R_spanOf sR_42 x5_42 1) - p1)), (x5_42 + 1))
  else (if x4_42 ≤ (m_R_size ((m_R_spanOf sR_42 x5_42 1) - p1)) then some (x3_42, x4_42, (x5_42 + 1))
  else some (x5_42, (m_R_size ((m_R_spanOf sR_42 x5_42 1) - p1)), (x5_42 + 1)))))))
def g_R_surest_42 (sR_42 : St) (p1 : Int32) : Int32 × Int32 × Int32 → Option (Int32 × Int32 × Int32) := fun v => f_R_surest_42 sR_42 p1 v.1 v.2.1 v.2.2
def b_R_surest_131 (sR_131 : St) (p2 : Int32) (x3_131 : Int32) (x4_131 : Int32) : Int32 × St :=
  (if p2 = 0 then (x3_131, sR_131)
  else (x4_131, sR_131))
def m_R_surest (sR : St) (p1 : Int32) (p2 : Int32) : Int32 × St :=
  (if (m_R_in p1 0 2000) = 0 then ((-1), sR)
  else (if (m_R_in p2 0 1) = 0 then ((-1), sR)
  else (if (m_R_findLeft sR).1 = 0 then ((-9), (m_R_findLeft sR).2)
  else (b_R_surest_131 (m_R_findLeft sR).2 p2 (wl (g_R_surest_42 (m_R_findLeft sR).2 p1) 62 ((-9), (-9), 0)).1 (wl (g_R_surest_42 (m_R_findLeft sR).2 p1) 62 ((-9), (-9), 0)).2.1))))
def f_R_newWall_2   (sR_2 : St) (x1_2 : Int32) : Option (St × Int32) :=
  (if 48 ≤ x1_2 then none
  else some ((up (up (up sR_2 9 (Int32.toNatClampNeg x1_2) 1) 10 (Int32.toNatClampNeg x1_2) 10) 11 (Int32.toNatClampNeg x1_2) 0), (x1_2 + 1)))
def g_R_newWall_2   : St × Int32 → Option (St × Int32) := fun v => f_R_newWall_2 v.1 v.2
def b_R_newWall_36 (sR_36 : St) : St :=
  sR_36
def m_R_newWall (sR : St)  : St :=
  (b_R_newWall_36 (wl g_R_newWall_2 49 (sR, 0)).1)
def m_R_wall (sR : St) (p1 : Int32) (p2 : Int32) : Int32 × St :=
  (if (m_R_in p1 1 8) = 0 then ((-1), sR)
  else (if (m_R_in p2 1 6) = 0 then ((-1), sR)
  else ((p1 * p2), (m_R_newWall (up (up sR 0 6 p1) 0 7 p2)))))
def m_R_isCell (sR : St) (p1 : Int32) (p2 : Int32) : Int32 :=
  (if (m_R_in p1 0 ((sR 0 6) - 1)) = 0 then 0
  else (if (m_R_in p2 0 ((sR 0 7) - 1)) = 0 then 0
  else 1))
def m_R_strength (sR : St) (p1 : Int32) (p2 : Int32) (p3 : Int32) : Int32 × St :=
  (if (m_R_isCell sR p1 p2) = 0 then ((-1), sR)
  else (if (m_R_in p3 1 99) = 0 then ((-1), sR)
  else (if (sR 9 (Int32.toNatClampNeg (p1 + ((sR 0 6) * p2)))) = 0 then ((-2), sR)
  else ((sR 10 (Int32.toNatClampNeg (p1 + ((sR 0 6) * p2)))), (up sR 10 (Int32.toNatClampNeg (p1 + ((sR 0 6) * p2))) p3)))))
def m_R_prop (sR : St) (p1 : Int32) (p2 : Int32) : Int32 × St :=
  (if (m_R_isCell sR p1 p2) = 0 then ((-1), sR)
  else (if (sR 9 (Int32.toNatClampNeg (p1 + ((sR 0 6) * p2)))) = 0 then ((-2), sR)
  else ((sR 11 (Int32.toNatClampNeg (p1 + ((sR 0 6) * p2)))), (up sR 11 (Int32.toNatClampNeg (p1 + ((sR 0 6) * p2))) 1))))
def f_R_keep_2   (sR_2 : St) (x1_2 : Int32) : Option (St × Int32) :=
  (if 48 ≤ x1_2 then none
  else some ((up (up (up sR_2 29 (Int32.toNatClampNeg x1_2) (sR_2 9 (Int32.toNatClampNeg x1_2))) 30 (Int32.toNatClampNeg x1_2) (sR_2 10 (Int32.toNatClampNeg x1_2))) 31 (Int32.toNatClampNeg x1_2) (sR_2 11 (Int32.toNatClampNeg x1_2))), (x1_2 + 1)))
def g_R_keep_2   : St × Int32 → Option (St × Int32) := fun v => f_R_keep_2 v.1 v.2
def b_R_keep_50 (sR_50 : St) : St :=
  sR_50
def m_R_keep (sR : St)  : St :=
  (b_R_keep_50 (wl g_R_keep_2 49 (sR, 0)).1)
def f_R_giveBack_2   (sR_2 : St) (x1_2 : Int32) : Option (St × Int32) :=
  (if 48 ≤ x1_2 then none
  else some ((up (up (up sR_2 9 (Int32.toNatClampNeg x1_2) (sR_2 29 (Int32.toNatClampNeg x1_2))) 10 (Int32.toNatClampNeg x1_2) (sR_2 30 (Int32.toNatClampNeg x1_2))) 11 (Int32.toNatClampNeg x1_2) (sR_2 31 (Int32.toNatClampNeg x1_2))), (x1_2 + 1)))
def g_R_giveBack_2   : St × Int32 → Option (St × Int32) := fun v => f_R_giveBack_2 v.1 v.2
def b_R_giveBack_50 (sR_50 : St) : St :=
  sR_50
def m_R_giveBack (sR : St)  : St :=
  (b_R_giveBack_50 (wl g_R_giveBack_2 49 (sR, 0)).1)
def f_R_strike_83  (p1 : Int32) (sR_83 : St) (x5_83 : Int32) (x6_83 : Int32) : Option (St × Int32 × Int32) :=
  (if (sR_83 0 7) ≤ x6_83 then none
  else (if (sR_83 9 (Int32.toNatClampNeg (p1 + ((sR_83 0 6) * x6_83)))) = 1 then (if (sR_83 11 (Int32.toNatClampNeg (p1 + ((sR_83 0 6) * x6_83)))) = 0 then (if (sR_83 9 (Int32.toNatClampNeg ((p1 + ((sR_83 0 6) * x6_83)) - (sR_83 0 6)))) = 0 then some ((up sR_83 9 (Int32.toNatClampNeg (p1 + ((sR_83 0 6) * x6_83))) 0), (x5_83 + 1), (x6_83 + 1))
  else some (sR_83, x5_83, (x6_83 + 1)))
  else some (sR_83, x5_83, (x6_83 + 1)))
  else some (sR_83, x5_83, (x6_83 + 1))))
def g_R_strike_83  (p1 : Int32) : St × Int32 × Int32 → Option (St × Int32 × Int32) := fun v => f_R_strike_83 p1 v.1 v.2.1 v.2.2
def b_R_strike_156 (sR_156 : St) (x5_156 : Int32) : Int32 × St :=
  (x5_156, sR_156)
def m_R_strike (sR : St) (p1 : Int32) (p2 : Int32) (p3 : Int32) : Int32 × St :=
  (if (m_R_isCell sR p1 p2) = 0 then (0, sR)
  else (if (sR 9 (Int32.toNatClampNeg (p1 + ((sR 0 6) * p2)))) = 0 then (0, sR)
  else (if 0 < ((sR 10 (Int32.toNatClampNeg (p1 + ((sR 0 6) * p2)))) - p3) then (b_R_strike_156 (wl (g_R_strike_83 p1) 8 ((up (up sR 10 (Int32.toNatClampNeg (p1 + ((sR 0 6) * p2))) ((sR 10 (Int32.toNatClampNeg (p1 + ((sR 0 6) * p2)))) - p3)) 11 (Int32.toNatClampNeg (p1 + ((sR 0 6) * p2))) 0), 0, 1)).1 (wl (g_R_strike_83 p1) 8 ((up (up sR 10 (Int32.toNatClampNeg (p1 + ((sR 0 6) * p2))) ((sR 10 (Int32.toNatClampNeg (p1 + ((sR 0 6) * p2)))) - p3)) 11 (Int32.toNatClampNeg (p1 + ((sR 0 6) * p2))) 0), 0, 1)).2.1)
  else (b_R_strike_156 (wl (g_R_strike_83 p1) 8 ((up (up (up sR 10 (Int32.toNatClampNeg (p1 + ((sR 0 6) * p2))) ((sR 10 (Int32.toNatClampNeg (p1 + ((sR 0 6) * p2)))) - p3)) 11 (Int32.toNatClampNeg (p1 + ((sR 0 6) * p2))) 0) 9 (Int32.toNatClampNeg (p1 + ((sR 0 6) * p2))) 0), 1, 1)).1 (wl (g_R_strike_83 p1) 8 ((up (up (up sR 10 (Int32.toNatClampNeg (p1 + ((sR 0 6) * p2))) ((sR 10 (Int32.toNatClampNeg (p1 + ((sR 0 6) * p2)))) - p3)) 11 (Int32.toNatClampNeg (p1 + ((sR 0 6) * p2))) 0) 9 (Int32.toNatClampNeg (p1 + ((sR 0 6) * p2))) 0), 1, 1)).2.1))))
def m_R_isForce  (p0 : Int32) : Int32 :=
  (m_R_in p0 1 99)
def m_R_hit (sR : St) (p1 : Int32) (p2 : Int32) (p3 : Int32) : Int32 × St :=
  (if (m_R_isCell sR p1 p2) = 0 then ((-1), sR)
  else (if (m_R_isForce p3) = 0 then ((-1), sR)
  else (if (sR 9 (Int32.toNatClampNeg (p1 + ((sR 0 6) * p2)))) = 0 then ((-2), sR)
  else ((m_R_strike sR p1 p2 p3).1, (m_R_strike sR p1 p2 p3).2))))
def m_R_cell (sR : St) (p1 : Int32) (p2 : Int32) (p3 : Int32) : Int32 :=
  (if (m_R_isCell sR p1 p2) = 0 then (-1)
  else (if (m_R_in p3 0 2) = 0 then (-1)
  else (if p3 = 0 then (sR 9 (Int32.toNatClampNeg (p1 + ((sR 0 6) * p2))))
  else (if p3 = 1 then (sR 10 (Int32.toNatClampNeg (p1 + ((sR 0 6) * p2))))
  else (sR 11 (Int32.toNatClampNeg (p1 + ((sR 0 6) * p2))))))))
def m_R_level (sR : St) (p1 : Int32) : Int32 × St :=
  (if (m_R_in p1 0 2) = 0 then ((-1), sR)
  else ((sR 0 11), (up sR 0 11 p1)))
def f_R_standing_4 (sR : St) (p1 : Int32) (x2_4 : Int32) (x3_4 : Int32) : Option (Int32 × Int32) :=
  (if (sR 0 7) ≤ x3_4 then none
  else some ((x2_4 + (sR 9 (Int32.toNatClampNeg (p1 + ((sR 0 6) * x3_4))))), (x3_4 + 1)))
def g_R_standing_4 (sR : St) (p1 : Int32) : Int32 × Int32 → Option (Int32 × Int32) := fun v => f_R_standing_4 sR p1 v.1 v.2
def b_R_standing_34 (sR : St) (x2_34 : Int32) : Int32 :=
  x2_34
def m_R_standing (sR : St) (p1 : Int32) : Int32 :=
  (b_R_standing_34 sR (wl (g_R_standing_4 sR p1) 7 (0, 0)).1)
def f_R_open_2 (sR : St)  (x1_2 : Int32) : (Int32) ⊕ (Int32) :=
  (if (sR 0 6) ≤ x1_2 then .inr (-9)
  else (if (sR 0 11) < (m_R_standing sR x1_2) then .inl (x1_2 + 1)
  else .inr x1_2))
def g_R_open_2 (sR : St)  : Int32 → (Int32) ⊕ (Int32) := fun v => f_R_open_2 sR v
def m_R_open (sR : St)  : Int32 :=
  (wc (g_R_open_2 sR) 0 9 0)
def m_R_cheaper (sR : St) (p1 : Int32) (p2 : Int32) : St :=
  (if (sR 33 (Int32.toNatClampNeg p1)) ≤ p2 then (up sR 33 (Int32.toNatClampNeg p1) (sR 33 (Int32.toNatClampNeg p1)))
  else (up sR 33 (Int32.toNatClampNeg p1) p2))
def f_R_fewest_62  (x3_62 : Int32) (sR_62 : St) (x6_62 : Int32) : Option (St × Int32) :=
  (if 6 ≤ x6_62 then none
  else some ((up sR_62 33 (Int32.toNatClampNeg x6_62) x3_62), (x6_62 + 1)))
def g_R_fewest_62  (x3_62 : Int32) : St × Int32 → Option (St × Int32) := fun v => f_R_fewest_62 x3_62 v.1 v.2
def f_R_fewest_86  (p2 : Int32) (x3_86 : Int32) (x5_86 : Int32) (sR_86 : St) (x6_86 : Int32) : Option (St × Int32) :=
  (if 3 ≤ x6_86 then none
  else (if (sR_86 9 (Int32.toNatClampNeg x5_86)) = 0 then some ((m_R_cheaper (m_R_cheaper sR_86 ((2 * x6_86) + 1) (sR_86 32 (Int32.toNatClampNeg (2 * x6_86)))) ((2 * x6_86) + 1) (sR_86 32 (Int32.toNatClampNeg ((2 * x6_86) + 1)))), (x6_86 + 1))
  else (if 2 ≤ x6_86 then some ((m_R_cheaper (m_R_cheaper sR_86 ((2 * x6_86) + 1) ((sR_86 32 (Int32.toNatClampNeg (2 * x6_86))) + ((((sR_86 10 (Int32.toNatClampNeg x5_86)) + p2) - 1) / p2))) ((2 * x6_86) + 1) ((sR_86 32 (Int32.toNatClampNeg ((2 * x6_86) + 1))) + ((m_R_cheaper sR_86 ((2 * x6_86) + 1) ((sR_86 32 (Int32.toNatClampNeg (2 * x6_86))) + ((((sR_86 10 (Int32.toNatClampNeg x5_86)) + p2) - 1) / p2))) 11 (Int32.toNatClampNeg x5_86)))), (x6_86 + 1))
  else (if ((m_R_cheaper (m_R_cheaper (m_R_cheaper sR_86 ((2 * x6_86) + 1) ((sR_86 32 (Int32.toNatClampNeg (2 * x6_86))) + ((((sR_86 10 (Int32.toNatClampNeg x5_86)) + p2) - 1) / p2))) ((2 * x6_86) + 1) ((sR_86 32 (Int32.toNatClampNeg ((2 * x6_86) + 1))) + ((m_R_cheaper sR_86 ((2 * x6_86) + 1) ((sR_86 32 (Int32.toNatClampNeg (2 * x6_86))) + ((((sR_86 10 (Int32.toNatClampNeg x5_86)) + p2) - 1) / p2))) 11 (Int32.toNatClampNeg x5_86)))) ((2 * x6_86) + 2) (sR_86 32 (Int32.toNatClampNeg (2 * x6_86)))) 11 (Int32.toNatClampNeg x5_86)) = 1 then some ((m_R_cheaper (m_R_cheaper (m_R_cheaper (m_R_cheaper sR_86 ((2 * x6_86) + 1) ((sR_86 32 (Int32.toNatClampNeg (2 * x6_86))) + ((((sR_86 10 (Int32.toNatClampNeg x5_86)) + p2) - 1) / p2))) ((2 * x6_86) + 1) ((sR_86 32 (Int32.toNatClampNeg ((2 * x6_86) + 1))) + ((m_R_cheaper sR_86 ((2 * x6_86) + 1) ((sR_86 32 (Int32.toNatClampNeg (2 * x6_86))) + ((((sR_86 10 (Int32.toNatClampNeg x5_86)) + p2) - 1) / p2))) 11 (Int32.toNatClampNeg x5_86)))) ((2 * x6_86) + 2) (sR_86 32 (Int32.toNatClampNeg (2 * x6_86)))) ((2 * x6_86) + 2) (sR_86 32 (Int32.toNatClampNeg ((2 * x6_86) + 1)))), (x6_86 + 1))
  else some ((m_R_cheaper (m_R_cheaper (m_R_cheaper (m_R_cheaper sR_86 ((2 * x6_86) + 1) ((sR_86 32 (Int32.toNatClampNeg (2 * x6_86))) + ((((sR_86 10 (Int32.toNatClampNeg x5_86)) + p2) - 1) / p2))) ((2 * x6_86) + 1) ((sR_86 32 (Int32.toNatClampNeg ((2 * x6_86) + 1))) + ((m_R_cheaper sR_86 ((2 * x6_86) + 1) ((sR_86 32 (Int32.toNatClampNeg (2 * x6_86))) + ((((sR_86 10 (Int32.toNatClampNeg x5_86)) + p2) - 1) / p2))) 11 (Int32.toNatClampNeg x5_86)))) ((2 * x6_86) + 2) (sR_86 32 (Int32.toNatClampNeg (2 * x6_86)))) ((2 * x6_86) + 2) x3_86), (x6_86 + 1))))))
def g_R_fewest_86  (p2 : Int32) (x3_86 : Int32) (x5_86 : Int32) : St × Int32 → Option (St × Int32) := fun v => f_R_fewest_86 p2 x3_86 x5_86 v.1 v.2
def f_R_fewest_253   (sR_253 : St) (x6_253 : Int32) : Option (St × Int32) :=
  (if 6 ≤ x6_253 then none
  else some ((up sR_253 32 (Int32.toNatClampNeg x6_253) (sR_253 33 (Int32.toNatClampNeg x6_253))), (x6_253 + 1)))
def g_R_fewest_253   : St × Int32 → Option (St × Int32) := fun v => f_R_fewest_253 v.1 v.2
def f_R_fewest_6  (x3_6 : Int32) (sR_6 : St) (x4_6 : Int32) : Option (St × Int32) :=
  (if 6 ≤ x4_6 then none
  else (if x4_6 = 0 then some ((up sR_6 32 (Int32.toNatClampNeg x4_6) 0), (x4_6 + 1))
  else some ((up sR_6 32 (Int32.toNatClampNeg x4_6) x3_6), (x4_6 + 1))))
def g_R_fewest_6  (x3_6 : Int32) : St × Int32 → Option (St × Int32) := fun v => f_R_fewest_6 x3_6 v.1 v.2
def b_R_fewest_280 (sR_280 : St) (p1 : Int32) (p2 : Int32) (x3_39 : Int32) (x4_280 : Int32) : Option (St × Int32) :=
  some (sR_280, (x4_280 + 1))
def b_R_fewest_250 (sR_250 : St) (p1 : Int32) (p2 : Int32) (x3_39 : Int32) (x4_250 : Int32) : Option (St × Int32) :=
  (b_R_fewest_280 (wl g_R_fewest_253 7 (sR_250, 0)).1 p1 p2 x3_39 x4_250)
def b_R_fewest_83 (sR_83 : St) (p1 : Int32) (p2 : Int32) (x3_39 : Int32) (x4_83 : Int32) (x5_83 : Int32) : Option (St × Int32) :=
  (b_R_fewest_250 (wl (g_R_fewest_86 p2 x3_39 x5_83) 4 (sR_83, 0)).1 p1 p2 x3_39 x4_83)
def f_R_fewest_39  (p1 : Int32) (p2 : Int32) (x3_39 : Int32) (sR_39 : St) (x4_39 : Int32) : Option (St × Int32) :=
  (if (sR_39 0 7) ≤ x4_39 then none
  else (b_R_fewest_83 (wl (g_R_fewest_62 x3_39) 7 (sR_39, 0)).1 p1 p2 x3_39 x4_39 (p1 + ((sR_39 0 6) * x4_39))))
def g_R_fewest_39  (p1 : Int32) (p2 : Int32) (x3_39 : Int32) : St × Int32 → Option (St × Int32) := fun v => f_R_fewest_39 p1 p2 x3_39 v.1 v.2
def f_R_fewest_292 (sR_292 : St)  (x4_292 : Int32) (x5_292 : Int32) : Option (Int32 × Int32) :=
  (if ((2 * (sR_292 0 11)) + 2) ≤ x5_292 then none
  else (if x4_292 ≤ (sR_292 32 (Int32.toNatClampNeg x5_292)) then some (x4_292, (x5_292 + 1))
  else some ((sR_292 32 (Int32.toNatClampNeg x5_292)), (x5_292 + 1))))
def g_R_fewest_292 (sR_292 : St)  : Int32 × Int32 → Option (Int32 × Int32) := fun v => f_R_fewest_292 sR_292 v.1 v.2
def b_R_fewest_337 (sR_337 : St) (x4_337 : Int32) : Int32 × St :=
  (x4_337, sR_337)
def b_R_fewest_286 (sR_286 : St) (x3_286 : Int32) : Int32 × St :=
  (b_R_fewest_337 sR_286 (wl (g_R_fewest_292 sR_286) 7 (x3_286, 0)).1)
def b_R_fewest_36 (sR_36 : St) (p1 : Int32) (p2 : Int32) (x3_36 : Int32) : Int32 × St :=
  (b_R_fewest_286 (wl (g_R_fewest_39 p1 p2 x3_36) 7 (sR_36, 0)).1 x3_36)
def m_R_fewest (sR : St) (p1 : Int32) (p2 : Int32) : Int32 × St :=
  (b_R_fewest_36 (wl (g_R_fewest_6 100000) 7 (sR, 0)).1 p1 p2 100000)
def f_R_soonest_31  (p1 : Int32) (sR_31 : St) (x3_31 : Int32) (x4_31 : Int32) (x5_31 : Int32) : Option (St × Int32 × Int32 × Int32) :=
  (if (sR_31 0 6) ≤ x5_31 then none
  else (if x4_31 ≤ (m_R_fewest sR_31 x5_31 p1).1 then (if x4_31 ≤ (m_R_fewest sR_31 x5_31 p1).1 then some ((m_R_fewest sR_31 x5_31 p1).2, x3_31, x4_31, (x5_31 + 1))
  else some ((m_R_fewest sR_31 x5_31 p1).2, x3_31, (m_R_fewest sR_31 x5_31 p1).1, (x5_31 + 1)))
  else (if x4_31 ≤ (m_R_fewest sR_31 x5_31 p1).1 then some ((m_R_fewest sR_31 x5_31 p1).2, x5_31, x4_31, (x5_31 + 1))
  else some ((m_R_fewest sR_31 x5_31 p1).2, x5_31, (m_R_fewest sR_31 x5_31 p1).1, (x5_31 + 1)))))
def g_R_soonest_31  (p1 : Int32) : St × Int32 × Int32 × Int32 → Option (St × Int32 × Int32 × Int32) := fun v => f_R_soonest_31 p1 v.1 v.2.1 v.2.2.1 v.2.2.2
def b_R_soonest_85 (sR_85 : St) (p2 : Int32) (x3_85 : Int32) (x4_85 : Int32) : Int32 × St :=
  (if p2 = 0 then (x3_85, sR_85)
  else (x4_85, sR_85))
def m_R_soonest (sR : St) (p1 : Int32) (p2 : Int32) : Int32 × St :=
  (if (m_R_isForce p1) = 0 then ((-1), sR)
  else (if (m_R_in p2 0 1) = 0 then ((-1), sR)
  else (b_R_soonest_85 (wl (g_R_soonest_31 p1) 9 ((m_R_fewest sR 0 p1).2, 0, (m_R_fewest sR 0 p1).1, 1)).1 p2 (wl (g_R_soonest_31 p1) 9 ((m_R_fewest sR 0 p1).2, 0, (m_R_fewest sR 0 p1).1, 1)).2.1 (wl (g_R_soonest_31 p1) 9 ((m_R_fewest sR 0 p1).2, 0, (m_R_fewest sR 0 p1).1, 1)).2.2.1)))
def m_R_scatter (sR : St) (p1 : Int32) (p2 : Int32) (p3 : Int32) : Int32 × St :=
  (if (m_R_in p1 (-1) 1) = 0 then ((-1), sR)
  else (if (m_R_in p2 (-1) 1) = 0 then ((-1), sR)
  else (if (m_R_in p3 0 9) = 0 then ((-1), sR)
  else ((sR 13 (Int32.toNatClampNeg ((p1 + 1) + (3 * (p2 + 1))))), (up sR 13 (Int32.toNatClampNeg ((p1 + 1) + (3 * (p2 + 1)))) p3)))))
def f_R_worthOf_10  (p1 : Int32) (p2 : Int32) (p3 : Int32) (sR_10 : St) (x4_10 : Int32) (x5_10 : Int32) : Option (St × Int32 × Int32) :=
  (if 9 ≤ x5_10 then none
  else some ((m_R_giveBack (m_R_strike sR_10 ((p1 + (x5_10 - x5_10 / 3 * 3)) - 1) ((p2 + (x5_10 / 3)) - 1) p3).2), (x4_10 + ((sR_10 13 (Int32.toNatClampNeg x5_10)) * (m_R_strike sR_10 ((p1 + (x5_10 - x5_10 / 3 * 3)) - 1) ((p2 + (x5_10 / 3)) - 1) p3).1)), (x5_10 + 1)))
def g_R_worthOf_10  (p1 : Int32) (p2 : Int32) (p3 : Int32) : St × Int32 × Int32 → Option (St × Int32 × Int32) := fun v => f_R_worthOf_10 p1 p2 p3 v.1 v.2.1 v.2.2
def b_R_worthOf_61 (sR_61 : St) (x4_61 : Int32) : Int32 × St :=
  (x4_61, sR_61)
def m_R_worthOf (sR : St) (p1 : Int32) (p2 : Int32) (p3 : Int32) : Int32 × St :=
  (b_R_worthOf_61 (wl (g_R_worthOf_10 p1 p2 p3) 10 ((m_R_keep sR), 0, 0)).1 (wl (g_R_worthOf_10 p1 p2 p3) 10 ((m_R_keep sR), 0, 0)).2.1)
def m_R_worth (sR : St) (p1 : Int32) (p2 : Int32) (p3 : Int32) : Int32 × St :=
  (if (m_R_isCell sR p1 p2) = 0 then ((-1), sR)
  else (if (m_R_isForce p3) = 0 then ((-1), sR)
  else ((m_R_worthOf sR p1 p2 p3).1, (m_R_worthOf sR p1 p2 p3).2)))
def f_R_aim_26  (p1 : Int32) (sR_26 : St) (x3_26 : Int32) (x4_26 : Int32) (x5_26 : Int32) : Option (St × Int32 × Int32 × Int32) :=
  (if ((sR_26 0 6) * (sR_26 0 7)) ≤ x5_26 then none
  else (if (m_R_worthOf sR_26 (x5_26 - x5_26 / (sR_26 0 6) * (sR_26 0 6)) (x5_26 / (sR_26 0 6)) p1).1 ≤ x4_26 then (if (m_R_worthOf sR_26 (x5_26 - x5_26 / (sR_26 0 6) * (sR_26 0 6)) (x5_26 / (sR_26 0 6)) p1).1 ≤ x4_26 then some ((m_R_worthOf sR_26 (x5_26 - x5_26 / (sR_26 0 6) * (sR_26 0 6)) (x5_26 / (sR_26 0 6)) p1).2, x3_26, x4_26, (x5_26 + 1))
  else some ((m_R_worthOf sR_26 (x5_26 - x5_26 / (sR_26 0 6) * (sR_26 0 6)) (x5_26 / (sR_26 0 6)) p1).2, x3_26, (m_R_worthOf sR_26 (x5_26 - x5_26 / (sR_26 0 6) * (sR_26 0 6)) (x5_26 / (sR_26 0 6)) p1).1, (x5_26 + 1)))
  else (if (m_R_worthOf sR_26 (x5_26 - x5_26 / (sR_26 0 6) * (sR_26 0 6)) (x5_26 / (sR_26 0 6)) p1).1 ≤ x4_26 then some ((m_R_worthOf sR_26 (x5_26 - x5_26 / (sR_26 0 6) * (sR_26 0 6)) (x5_26 / (sR_26 0 6)) p1).2, x5_26, x4_26, (x5_26 + 1))
  else some ((m_R_worthOf sR_26 (x5_26 - x5_26 / (sR_26 0 6) * (sR_26 0 6)) (x5_26 / (sR_26 0 6)) p1).2, x5_26, (m_R_worthOf sR_26 (x5_26 - x5_26 / (sR_26 0 6) * (sR_26 0 6)) (x5_26 / (sR_26 0 6)) p1).1, (x5_26 + 1)))))
def g_R_aim_26  (p1 : Int32) : St × Int32 × Int32 × Int32 → Option (St × Int32 × Int32 × Int32) := fun v => f_R_aim_26 p1 v.1 v.2.1 v.2.2.1 v.2.2.2
def b_R_aim_97 (sR_97 : St) (p2 : Int32) (x3_97 : Int32) (x4_97 : Int32) : Int32 × St :=
  (if p2 = 0 then (x3_97, sR_97)
  else (x4_97, sR_97))
def m_R_aim (sR : St) (p1 : Int32) (p2 : Int32) : Int32 × St :=
  (if (m_R_isForce p1) = 0 then ((-1), sR)
  else (if (m_R_in p2 0 1) = 0 then ((-1), sR)
  else (b_R_aim_97 (wl (g_R_aim_26 p1) 49 (sR, 0, (-1), 0)).1 p2 (wl (g_R_aim_26 p1) 49 (sR, 0, (-1), 0)).2.1 (wl (g_R_aim_26 p1) 49 (sR, 0, (-1), 0)).2.2.1)))
def f_R_held_83  (p1 : Int32) (p2 : Int32) (p3 : Int32) (p4 : Int32) (sR_83 : St) (x9_83 : Int32) (x10_83 : Int64) (x12_83 : Int32) : Option (St × Int32 × Int64 × Int32) :=
  (if p4 ≤ x12_83 then none
  else (if (lg_cmp x10_83 0) ≤ 0 then none
  else (if (lg_cmp (x10_83 * (Int32.toInt64 (sR_83 13 (Int32.toNatClampNeg (x9_83 - x9_83 / 9 * 9))))) 0) ≤ 0 then some (sR_83, (x9_83 / 9), (x10_83 * (Int32.toInt64 (sR_83 13 (Int32.toNatClampNeg (x9_83 - x9_83 / 9 * 9))))), (x12_83 + 1))
  else some ((m_R_strike sR_83 ((p1 + ((x9_83 - x9_83 / 9 * 9) - (x9_83 - x9_83 / 9 * 9) / 3 * 3)) - 1) ((p2 + ((x9_83 - x9_83 / 9 * 9) / 3)) - 1) p3).2, (x9_83 / 9), (x10_83 * (Int32.toInt64 (sR_83 13 (Int32.toNatClampNeg (x9_83 - x9_83 / 9 * 9))))), (x12_83 + 1)))))
def g_R_held_83  (p1 : Int32) (p2 : Int32) (p3 : Int32) (p4 : Int32) : St × Int32 × Int64 × Int32 → Option (St × Int32 × Int64 × Int32) := fun v => f_R_held_83 p1 p2 p3 p4 v.1 v.2.1 v.2.2.1 v.2.2.2
def f_R_held_36 (sR_36 : St) (p4 : Int32) (x5_36 : Int32) (x6_36 : Int32) : Option (Int32 × Int32) :=
  (if p4 ≤ x6_36 then none
  else some ((x5_36 * 9), (x6_36 + 1)))
def g_R_held_36 (sR_36 : St) (p4 : Int32) : Int32 × Int32 → Option (Int32 × Int32) := fun v => f_R_held_36 sR_36 p4 v.1 v.2
def b_R_held_160 (sR_160 : St) (p1 : Int32) (p2 : Int32) (p3 : Int32) (p4 : Int32) (x5_66 : Int32) (x6_160 : Int64) (x8_160 : Int32) (x10_160 : Int64) : Option (St × Int64 × Int32) :=
  (if (lg_cmp x10_160 0) ≤ 0 then some ((m_R_giveBack sR_160), (x6_160 + 0), (x8_160 + 1))
  else (if (m_R_open sR_160) = (-9) then some ((m_R_giveBack sR_160), (x6_160 + x10_160), (x8_160 + 1))
  else some ((m_R_giveBack sR_160), (x6_160 + 0), (x8_160 + 1))))
def f_R_held_66  (p1 : Int32) (p2 : Int32) (p3 : Int32) (p4 : Int32) (x5_66 : Int32) (sR_66 : St) (x6_66 : Int64) (x8_66 : Int32) : Option (St × Int64 × Int32) :=
  (if x5_66 ≤ x8_66 then none
  else (b_R_held_160 (wl (g_R_held_83 p1 p2 p3 p4) 5 (sR_66, x8_66, 1, 0)).1 p1 p2 p3 p4 x5_66 x6_66 x8_66 (wl (g_R_held_83 p1 p2 p3 p4) 5 (sR_66, x8_66, 1, 0)).2.2.1))
def g_R_held_66  (p1 : Int32) (p2 : Int32) (p3 : Int32) (p4 : Int32) (x5_66 : Int32) : St × Int64 × Int32 → Option (St × Int64 × Int32) := fun v => f_R_held_66 p1 p2 p3 p4 x5_66 v.1 v.2.1 v.2.2
def b_R_held_197 (sR_197 : St) (x6_197 : Int64) : Int64 × St :=
  (x6_197, sR_197)
def b_R_held_56 (sR_56 : St) (p1 : Int32) (p2 : Int32) (p3 : Int32) (p4 : Int32) (x5_56 : Int32) : Int64 × St :=
  (b_R_held_197 (wl (g_R_held_66 p1 p2 p3 p4 x5_56) 6562 ((m_R_keep sR_56), 0, 0)).1 (wl (g_R_held_66 p1 p2 p3 p4 x5_56) 6562 ((m_R_keep sR_56), 0, 0)).2.1)
def m_R_held (sR : St) (p1 : Int32) (p2 : Int32) (p3 : Int32) (p4 : Int32) : Int64 × St :=
  (if (m_R_isCell sR p1 p2) = 0 then ((-1), sR)
  else (if (m_R_isForce p3) = 0 then ((-1), sR)
  else (if (m_R_in p4 1 4) = 0 then ((-1), sR)
  else (b_R_held_56 sR p1 p2 p3 p4 (wl (g_R_held_36 sR p4) 5 (1, 0)).1))))
def m_R_wound (sR : St)  : Int32 × St :=
  (if (sR 0 13) = 0 then (1, (up sR 0 13 1))
  else ((-2), sR))
def m_R_sling (sR : St)  : Int32 × St :=
  (if (sR 0 13) = 1 then (2, (up sR 0 13 2))
  else ((-2), sR))
def m_R_near (sR : St) (p1 : Int32) : Int32 × St :=
  (if (m_R_in p1 0 200) = 0 then ((-1), sR)
  else (if (sR 0 13) < 2 then ((sR 0 13), sR)
  else (if p1 = 0 then (3, (up sR 0 13 3))
  else (2, (up sR 0 13 2)))))
def m_R_loose (sR : St) (p1 : Int32) (p2 : Int32) (p3 : Int32) : Int32 × St :=
  (if (m_R_isCell sR p1 p2) = 0 then ((-1), sR)
  else (if (m_R_in p3 0 2000) = 0 then ((-1), sR)
  else (if (sR 0 13) = 3 then (if (sR 16 1) = 0 then ((-2), sR)
  else (if ((m_R_step (up (up (up sR 0 13 0) 16 1 ((sR 16 1) - 1)) 0 14 ((sR 0 14) + 1)) (sR 1 3) (sR 1 4)) 0 25) = (-9) then ((-3), (m_R_step (up (up (up sR 0 13 0) 16 1 ((sR 16 1) - 1)) 0 14 ((sR 0 14) + 1)) (sR 1 3) (sR 1 4)))
  else (if 5 < (m_R_size (((m_R_step (up (up (up sR 0 13 0) 16 1 ((sR 16 1) - 1)) 0 14 ((sR 0 14) + 1)) (sR 1 3) (sR 1 4)) 0 25) - p3)) then (((m_R_step (up (up (up sR 0 13 0) 16 1 ((sR 16 1) - 1)) 0 14 ((sR 0 14) + 1)) (sR 1 3) (sR 1 4)) 0 25), (m_R_step (up (up (up sR 0 13 0) 16 1 ((sR 16 1) - 1)) 0 14 ((sR 0 14) + 1)) (sR 1 3) (sR 1 4)))
  else (if (((((m_R_step (up (up (up sR 0 13 0) 16 1 ((sR 16 1) - 1)) 0 14 ((sR 0 14) + 1)) (sR 1 3) (sR 1 4)) 1 7) * ((m_R_step (up (up (up sR 0 13 0) 16 1 ((sR 16 1) - 1)) 0 14 ((sR 0 14) + 1)) (sR 1 3) (sR 1 4)) 0 25)) / 500) + 1) ≤ 99 then (((m_R_strike (m_R_step (up (up (up sR 0 13 0) 16 1 ((sR 16 1) - 1)) 0 14 ((sR 0 14) + 1)) (sR 1 3) (sR 1 4)) p1 p2 (((((m_R_step (up (up (up sR 0 13 0) 16 1 ((sR 16 1) - 1)) 0 14 ((sR 0 14) + 1)) (sR 1 3) (sR 1 4)) 1 7) * ((m_R_step (up (up (up sR 0 13 0) 16 1 ((sR 16 1) - 1)) 0 14 ((sR 0 14) + 1)) (sR 1 3) (sR 1 4)) 0 25)) / 500) + 1)).2 0 25), (m_R_strike (m_R_step (up (up (up sR 0 13 0) 16 1 ((sR 16 1) - 1)) 0 14 ((sR 0 14) + 1)) (sR 1 3) (sR 1 4)) p1 p2 (((((m_R_step (up (up (up sR 0 13 0) 16 1 ((sR 16 1) - 1)) 0 14 ((sR 0 14) + 1)) (sR 1 3) (sR 1 4)) 1 7) * ((m_R_step (up (up (up sR 0 13 0) 16 1 ((sR 16 1) - 1)) 0 14 ((sR 0 14) + 1)) (sR 1 3) (sR 1 4)) 0 25)) / 500) + 1)).2)
  else (((m_R_strike (m_R_step (up (up (up sR 0 13 0) 16 1 ((sR 16 1) - 1)) 0 14 ((sR 0 14) + 1)) (sR 1 3) (sR 1 4)) p1 p2 99).2 0 25), (m_R_strike (m_R_step (up (up (up sR 0 13 0) 16 1 ((sR 16 1) - 1)) 0 14 ((sR 0 14) + 1)) (sR 1 3) (sR 1 4)) p1 p2 99).2)))))
  else ((-2), sR))))
def m_R_store (sR : St) (p1 : Int32) (p2 : Int32) : Int32 × St :=
  (if p1 = 0 then (if p1 = 0 then (if (m_R_in p1 0 4) = 0 then ((-1), sR)
  else (if (m_R_in p2 1 200) = 0 then ((-1), sR)
  else ((sR 16 (Int32.toNatClampNeg p1)), (up sR 16 (Int32.toNatClampNeg p1) p2))))
  else (if p1 = 4 then (if (m_R_in p1 0 4) = 0 then ((-1), sR)
  else (if (m_R_in p2 1 200) = 0 then ((-1), sR)
  else ((sR 16 (Int32.toNatClampNeg p1)), (up sR 16 (Int32.toNatClampNeg p1) p2))))
  else (if (m_R_in p1 0 4) = 0 then ((-1), sR)
  else (if (m_R_in p2 1 9999) = 0 then ((-1), sR)
  else ((sR 16 (Int32.toNatClampNeg p1)), (up sR 16 (Int32.toNatClampNeg p1) p2))))))
  else (if p1 = 4 then (if p1 = 0 then (if (m_R_in p1 0 4) = 0 then ((-1), sR)
  else (if (m_R_in p2 1 200) = 0 then ((-1), sR)
  else ((sR 16 (Int32.toNatClampNeg p1)), (up sR 16 (Int32.toNatClampNeg p1) p2))))
  else (if p1 = 4 then (if (m_R_in p1 0 4) = 0 then ((-1), sR)
  else (if (m_R_in p2 1 200) = 0 then ((-1), sR)
  else ((sR 16 (Int32.toNatClampNeg p1)), (up sR 16 (Int32.toNatClampNeg p1) p2))))
  else (if (m_R_in p1 0 4) = 0 then ((-1), sR)
  else (if (m_R_in p2 1 9999) = 0 then ((-1), sR)
  else ((sR 16 (Int32.toNatClampNeg p1)), (up sR 16 (Int32.toNatClampNeg p1) p2))))))
  else (if p1 = 0 then (if (m_R_in p1 0 4) = 0 then ((-1), sR)
  else (if (m_R_in p2 0 200) = 0 then ((-1), sR)
  else ((sR 16 (Int32.toNatClampNeg p1)), (up sR 16 (Int32.toNatClampNeg p1) p2))))
  else (if p1 = 4 then (if (m_R_in p1 0 4) = 0 then ((-1), sR)
  else (if (m_R_in p2 0 200) = 0 then ((-1), sR)
  else ((sR 16 (Int32.toNatClampNeg p1)), (up sR 16 (Int32.toNatClampNeg p1) p2))))
  else (if (m_R_in p1 0 4) = 0 then ((-1), sR)
  else (if (m_R_in p2 0 9999) = 0 then ((-1), sR)
  else ((sR 16 (Int32.toNatClampNeg p1)), (up sR 16 (Int32.toNatClampNeg p1) p2))))))))
def m_R_wet (sR : St) (p1 : Int32) (p2 : Int32) : Int32 × St :=
  (if (m_R_in p1 1 20) = 0 then ((-1), sR)
  else (if (m_R_in p2 0 ((1 <<< (p1 &&& 31)) - 1)) = 0 then ((-1), sR)
  else (p1, (up (up sR 0 16 p1) 0 17 p2))))
def f_R_lastsBy_147 (sR : St) (p1 : Int32) (x8_147 : Int32) (x9_147 : Int32) (x2_147 : Int32) (x3_147 : Int32) (x5_147 : Int32) (x10_147 : Int32) (x11_147 : Int32) (x12_147 : Int32) : Option (Int32 × Int32 × Int32 × Int32 × Int32 × Int32) :=
  (if p1 ≤ x12_147 then none
  else (if x11_147 = 0 then none
  else (if x10_147 < x9_147 then (if x8_147 = 0 then some ((x2_147 + (-1)), x3_147, (x5_147 + 1), (x10_147 - x9_147), 0, (x12_147 + 1))
  else some ((x2_147 + (-1)), x3_147, (x5_147 + 2), (x10_147 - x9_147), 0, (x12_147 + 1)))
  else (if x2_147 ≤ 0 then (if x8_147 = 0 then some ((x2_147 + (-1)), x3_147, (x5_147 + 1), (x10_147 - x9_147), 0, (x12_147 + 1))
  else some ((x2_147 + (-1)), x3_147, (x5_147 + 2), (x10_147 - x9_147), 0, (x12_147 + 1)))
  else (if x8_147 = 0 then (if (x5_147 + 1) < (sR 16 4) then some ((x2_147 + (-1)), x3_147, (x5_147 + 1), (x10_147 - x9_147), 1, (x12_147 + 1))
  else (if x3_147 < 3 then some ((x2_147 + (-1)), (x3_147 + (-3)), 0, (x10_147 - x9_147), 0, (x12_147 + 1))
  else some ((x2_147 + (-1)), (x3_147 + (-3)), 0, (x10_147 - x9_147), 1, (x12_147 + 1))))
  else (if (x5_147 + 2) < (sR 16 4) then some ((x2_147 + (-1)), x3_147, (x5_147 + 2), (x10_147 - x9_147), 1, (x12_147 + 1))
  else (if x3_147 < 3 then some ((x2_147 + (-1)), (x3_147 + (-3)), 0, (x10_147 - x9_147), 0, (x12_147 + 1))
  else some ((x2_147 + (-1)), (x3_147 + (-3)), 0, (x10_147 - x9_147), 1, (x12_147 + 1)))))))))
def g_R_lastsBy_147 (sR : St) (p1 : Int32) (x8_147 : Int32) (x9_147 : Int32) : Int32 × Int32 × Int32 × Int32 × Int32 × Int32 → Option (Int32 × Int32 × Int32 × Int32 × Int32 × Int32) := fun v => f_R_lastsBy_147 sR p1 x8_147 x9_147 v.1 v.2.1 v.2.2.1 v.2.2.2.1 v.2.2.2.2.1 v.2.2.2.2.2
def b_R_lastsBy_241 (sR : St) (p1 : Int32) (x2_241 : Int32) (x3_241 : Int32) (x4_241 : Int32) (x5_241 : Int32) (x6_51 : Int32) (x7_241 : Int32) (x11_241 : Int32) : (Int32 × Int32 × Int32 × Int32 × Int32) ⊕ (Int32) :=
  (if x11_241 = 0 then .inr x7_241
  else .inl (x2_241, x3_241, x4_241, x5_241, (x7_241 + 1)))
def f_R_lastsBy_51 (sR : St) (p1 : Int32) (x6_51 : Int32) (x2_51 : Int32) (x3_51 : Int32) (x4_51 : Int32) (x5_51 : Int32) (x7_51 : Int32) : (Int32 × Int32 × Int32 × Int32 × Int32) ⊕ (Int32) :=
  (if 100 ≤ x7_51 then .inr 100
  else (if (((sR 0 17) >>> ((x7_51 - x7_51 / (sR 0 16) * (sR 0 16)) &&& 31)) &&& 1) = 1 then (if x4_51 < (sR 16 0) then (b_R_lastsBy_241 sR p1 (wl (g_R_lastsBy_147 sR p1 1 (x6_51 + ((x6_51 + 3) / 4))) 61 (x2_51, x3_51, x5_51, (30 * (sR 16 0)), 0, 0)).1 (wl (g_R_lastsBy_147 sR p1 1 (x6_51 + ((x6_51 + 3) / 4))) 61 (x2_51, x3_51, x5_51, (30 * (sR 16 0)), 0, 0)).2.1 (x4_51 - (sR 16 0)) (wl (g_R_lastsBy_147 sR p1 1 (x6_51 + ((x6_51 + 3) / 4))) 61 (x2_51, x3_51, x5_51, (30 * (sR 16 0)), 0, 0)).2.2.1 x6_51 x7_51 (wl (g_R_lastsBy_147 sR p1 1 (x6_51 + ((x6_51 + 3) / 4))) 61 (x2_51, x3_51, x5_51, (30 * (sR 16 0)), 0, 0)).2.2.2.2.1)
  else (b_R_lastsBy_241 sR p1 (wl (g_R_lastsBy_147 sR p1 1 (x6_51 + ((x6_51 + 3) / 4))) 61 (x2_51, x3_51, x5_51, (30 * (sR 16 0)), 1, 0)).1 (wl (g_R_lastsBy_147 sR p1 1 (x6_51 + ((x6_51 + 3) / 4))) 61 (x2_51, x3_51, x5_51, (30 * (sR 16 0)), 1, 0)).2.1 (x4_51 - (sR 16 0)) (wl (g_R_lastsBy_147 sR p1 1 (x6_51 + ((x6_51 + 3) / 4))) 61 (x2_51, x3_51, x5_51, (30 * (sR 16 0)), 1, 0)).2.2.1 x6_51 x7_51 (wl (g_R_lastsBy_147 sR p1 1 (x6_51 + ((x6_51 + 3) / 4))) 61 (x2_51, x3_51, x5_51, (30 * (sR 16 0)), 1, 0)).2.2.2.2.1))
  else (if x4_51 < (sR 16 0) then (b_R_lastsBy_241 sR p1 (wl (g_R_lastsBy_147 sR p1 0 x6_51) 61 (x2_51, x3_51, x5_51, (30 * (sR 16 0)), 0, 0)).1 (wl (g_R_lastsBy_147 sR p1 0 x6_51) 61 (x2_51, x3_51, x5_51, (30 * (sR 16 0)), 0, 0)).2.1 (x4_51 - (sR 16 0)) (wl (g_R_lastsBy_147 sR p1 0 x6_51) 61 (x2_51, x3_51, x5_51, (30 * (sR 16 0)), 0, 0)).2.2.1 x6_51 x7_51 (wl (g_R_lastsBy_147 sR p1 0 x6_51) 61 (x2_51, x3_51, x5_51, (30 * (sR 16 0)), 0, 0)).2.2.2.2.1)
  else (b_R_lastsBy_241 sR p1 (wl (g_R_lastsBy_147 sR p1 0 x6_51) 61 (x2_51, x3_51, x5_51, (30 * (sR 16 0)), 1, 0)).1 (wl (g_R_lastsBy_147 sR p1 0 x6_51) 61 (x2_51, x3_51, x5_51, (30 * (sR 16 0)), 1, 0)).2.1 (x4_51 - (sR 16 0)) (wl (g_R_lastsBy_147 sR p1 0 x6_51) 61 (x2_51, x3_51, x5_51, (30 * (sR 16 0)), 1, 0)).2.2.1 x6_51 x7_51 (wl (g_R_lastsBy_147 sR p1 0 x6_51) 61 (x2_51, x3_51, x5_51, (30 * (sR 16 0)), 1, 0)).2.2.2.2.1))))
def g_R_lastsBy_51 (sR : St) (p1 : Int32) (x6_51 : Int32) : Int32 × Int32 × Int32 × Int32 × Int32 → (Int32 × Int32 × Int32 × Int32 × Int32) ⊕ (Int32) := fun v => f_R_lastsBy_51 sR p1 x6_51 v.1 v.2.1 v.2.2.1 v.2.2.2.1 v.2.2.2.2
def m_R_lastsBy (sR : St) (p1 : Int32) : Int32 :=
  (wc (g_R_lastsBy_51 sR p1 ((((sR 1 2) * (sR 1 0)) + 999) / 1000)) 0 101 ((sR 16 1), (sR 16 2), (sR 16 3), 0, 0))
def m_R_lasts (sR : St) (p1 : Int32) : Int32 :=
  (if (m_R_in p1 0 60) = 0 then (-1)
  else (m_R_lastsBy sR p1))
def f_R_rate_15 (sR : St) (p1 : Int32) (x2_15 : Int32) : (Int32) ⊕ (Int32) :=
  (if x2_15 < 0 then .inr (-9)
  else (if (m_R_lastsBy sR x2_15) < p1 then .inl (x2_15 + (-1))
  else .inr x2_15))
def g_R_rate_15 (sR : St) (p1 : Int32) : Int32 → (Int32) ⊕ (Int32) := fun v => f_R_rate_15 sR p1 v
def m_R_rate (sR : St) (p1 : Int32) : Int32 :=
  (if (m_R_in p1 1 100) = 0 then (-1)
  else (wc (g_R_rate_15 sR p1) 0 62 60))
def f_R_count_65 (sR : St)  (x2_65 : Int32) (x3_65 : Int32) : Option (Int32 × Int32) :=
  (if (sR 0 6) ≤ x3_65 then none
  else some ((x2_65 + (m_R_standing sR x3_65)), (x3_65 + 1)))
def g_R_count_65 (sR : St)  : Int32 × Int32 → Option (Int32 × Int32) := fun v => f_R_count_65 sR v.1 v.2
def f_R_count_108 (sR : St)  (x2_108 : Int32) (x3_108 : Int32) : Option (Int32 × Int32) :=
  (if (sR 0 6) ≤ x3_108 then none
  else (if (sR 0 11) < (m_R_standing sR x3_108) then some ((x2_108 + 0), (x3_108 + 1))
  else some ((x2_108 + 1), (x3_108 + 1))))
def g_R_count_108 (sR : St)  : Int32 × Int32 → Option (Int32 × Int32) := fun v => f_R_count_108 sR v.1 v.2
def b_R_count_142 (sR : St) (x2_142 : Int32) : Int32 :=
  x2_142
def b_R_count_87 (sR : St) (x2_87 : Int32) : Int32 :=
  x2_87
def m_R_count (sR : St) (p1 : Int32) : Int32 :=
  (if p1 = 0 then (sR 0 13)
  else (if p1 = 1 then (sR 0 6)
  else (if p1 = 2 then (sR 0 7)
  else (if p1 = 3 then (b_R_count_87 sR (wl (g_R_count_65 sR) 9 (0, 0)).1)
  else (if p1 = 4 then (sR 0 3)
  else (if p1 = 5 then (sR 0 14)
  else (if p1 = 6 then (sR 16 1)
  else (if p1 = 7 then (b_R_count_142 sR (wl (g_R_count_108 sR) 9 (0, 0)).1)
  else (-1)))))))))
def m_R_trace (sR : St) (vR : Int64)  : Int64 :=
  vR
