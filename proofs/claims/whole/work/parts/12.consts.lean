def jFuel : Nat := 100000
theorem jOut_int {x : Int32} {n : Int} (h : x.toInt = n) : x = Int32.ofInt n := by rw [← h, Int32.ofInt_toInt]
theorem kc_m1 : Int32.ofInt (-1) = (-1) := by decide
theorem kc_0 : Int32.ofInt (0) = 0 := by decide
theorem kc_1 : Int32.ofInt (1) = 1 := by decide
theorem kc_2 : Int32.ofInt (2) = 2 := by decide
theorem kc_3 : Int32.ofInt (3) = 3 := by decide
theorem kc_4 : Int32.ofInt (4) = 4 := by decide
theorem kc_5 : Int32.ofInt (5) = 5 := by decide
theorem kb_m3 : (Int8.ofInt (-3)).toInt32 = (-3) := by decide
theorem kb_7 : (Int8.ofInt (7)).toInt32 = 7 := by decide
theorem kb_8 : (Int8.ofInt (8)).toInt32 = 8 := by decide
theorem kb_10 : (Int8.ofInt (10)).toInt32 = 10 := by decide
theorem kb_32 : (Int8.ofInt (32)).toInt32 = 32 := by decide
theorem kb_80 : (Int8.ofInt (80)).toInt32 = 80 := by decide
theorem kb_101 : (Int8.ofInt (101)).toInt32 = 101 := by decide
theorem kb_126 : (Int8.ofInt (126)).toInt32 = 126 := by decide
theorem ks_255 : (Int16.ofInt (255)).toInt32 = 255 := by decide
theorem ks_409 : (Int16.ofInt (409)).toInt32 = 409 := by decide
theorem ks_410 : (Int16.ofInt (410)).toInt32 = 410 := by decide
theorem jOut0_5 {x : Int32} (h0 : ¬ x = 0) (h1 : ¬ x = 1) (h2 : ¬ x = 2) (h3 : ¬ x = 3) (h4 : ¬ x = 4) (h5 : ¬ x = 5) : x.toInt < 0 ∨ 5 < x.toInt := by
  by_cases p1 : x.toInt < 0
  · exact Or.inl p1
  · by_cases p2 : 5 < x.toInt
    · exact Or.inr p2
    exfalso
    by_cases q0 : x.toInt = 0
    · exact absurd ((jOut_int q0).trans kc_0) h0
    by_cases q1 : x.toInt = 1
    · exact absurd ((jOut_int q1).trans kc_1) h1
    by_cases q2 : x.toInt = 2
    · exact absurd ((jOut_int q2).trans kc_2) h2
    by_cases q3 : x.toInt = 3
    · exact absurd ((jOut_int q3).trans kc_3) h3
    by_cases q4 : x.toInt = 4
    · exact absurd ((jOut_int q4).trans kc_4) h4
    by_cases q5 : x.toInt = 5
    · exact absurd ((jOut_int q5).trans kc_5) h5
    omega
theorem jOut2_5 {x : Int32} (h2 : ¬ x = 2) (h3 : ¬ x = 3) (h4 : ¬ x = 4) (h5 : ¬ x = 5) : x.toInt < 2 ∨ 5 < x.toInt := by
  by_cases p1 : x.toInt < 2
  · exact Or.inl p1
  · by_cases p2 : 5 < x.toInt
    · exact Or.inr p2
    exfalso
    by_cases q2 : x.toInt = 2
    · exact absurd ((jOut_int q2).trans kc_2) h2
    by_cases q3 : x.toInt = 3
    · exact absurd ((jOut_int q3).trans kc_3) h3
    by_cases q4 : x.toInt = 4
    · exact absurd ((jOut_int q4).trans kc_4) h4
    by_cases q5 : x.toInt = 5
    · exact absurd ((jOut_int q5).trans kc_5) h5
    omega
