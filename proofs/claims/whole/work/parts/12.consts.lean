abbrev rmXL (d : Nat) : Room := { frames := 2 * d + 10, cells := 0, slots := 0, locals := 80 * d + 400 }
abbrev rmXF (d : Nat) : Room := { frames := 2 * d + 11, cells := 0, slots := 0, locals := 80 * d + 440 }
abbrev rmXG (d : Nat) : Room := { frames := 2 * d + 12, cells := 0, slots := 0, locals := 80 * d + 480 }
abbrev rmML (d : Nat) : Room := rmXL d
abbrev rmMF (d : Nat) : Room := rmXF d
abbrev rmMG (d : Nat) : Room := rmXG d
theorem rk1_rmXL (d k : Nat) (h : k ≤ 10) : k ≤ (rmXL d).frames := by simp only [rmXL]; omega
theorem rk2_rmXL (d k : Nat) (h : k ≤ 400) : k ≤ (rmXL d).locals := by simp only [rmXL]; omega
theorem rk1_rmXF (d k : Nat) (h : k ≤ 11) : k ≤ (rmXF d).frames := by simp only [rmXF]; omega
theorem rk2_rmXF (d k : Nat) (h : k ≤ 440) : k ≤ (rmXF d).locals := by simp only [rmXF]; omega
theorem rk1_rmXG (d k : Nat) (h : k ≤ 12) : k ≤ (rmXG d).frames := by simp only [rmXG]; omega
theorem rk2_rmXG (d k : Nat) (h : k ≤ 480) : k ≤ (rmXG d).locals := by simp only [rmXG]; omega
theorem rk1_rmML (d k : Nat) (h : k ≤ 10) : k ≤ (rmML d).frames := by simp only [rmML, rmXL]; omega
theorem rk2_rmML (d k : Nat) (h : k ≤ 400) : k ≤ (rmML d).locals := by simp only [rmML, rmXL]; omega
theorem rk1_rmMF (d k : Nat) (h : k ≤ 11) : k ≤ (rmMF d).frames := by simp only [rmMF, rmXF]; omega
theorem rk2_rmMF (d k : Nat) (h : k ≤ 440) : k ≤ (rmMF d).locals := by simp only [rmMF, rmXF]; omega
theorem rk1_rmMG (d k : Nat) (h : k ≤ 12) : k ≤ (rmMG d).frames := by simp only [rmMG, rmXG]; omega
theorem rk2_rmMG (d k : Nat) (h : k ≤ 480) : k ≤ (rmMG d).locals := by simp only [rmMG, rmXG]; omega
def jFuel : Nat := 100000
theorem jOut_int {x : Int32} {n : Int} (h : x.toInt = n) : x = Int32.ofInt n := by rw [← h, Int32.ofInt_toInt]
theorem kc_m1 : Int32.ofInt (-1) = (-1) := by decide
theorem kc_0 : Int32.ofInt (0) = 0 := by decide
theorem kc_1 : Int32.ofInt (1) = 1 := by decide
theorem kc_2 : Int32.ofInt (2) = 2 := by decide
theorem kc_3 : Int32.ofInt (3) = 3 := by decide
theorem kc_4 : Int32.ofInt (4) = 4 := by decide
theorem kc_5 : Int32.ofInt (5) = 5 := by decide
theorem kc_6 : Int32.ofInt (6) = 6 := by decide
theorem kc_7 : Int32.ofInt (7) = 7 := by decide
theorem kc_8 : Int32.ofInt (8) = 8 := by decide
theorem kb_m4 : (Int8.ofInt (-4)).toInt32 = (-4) := by decide
theorem kb_m3 : (Int8.ofInt (-3)).toInt32 = (-3) := by decide
theorem kb_m2 : (Int8.ofInt (-2)).toInt32 = (-2) := by decide
theorem kb_6 : (Int8.ofInt (6)).toInt32 = 6 := by decide
theorem kb_7 : (Int8.ofInt (7)).toInt32 = 7 := by decide
theorem kb_8 : (Int8.ofInt (8)).toInt32 = 8 := by decide
theorem kb_9 : (Int8.ofInt (9)).toInt32 = 9 := by decide
theorem kb_10 : (Int8.ofInt (10)).toInt32 = 10 := by decide
theorem kb_32 : (Int8.ofInt (32)).toInt32 = 32 := by decide
theorem kb_40 : (Int8.ofInt (40)).toInt32 = 40 := by decide
theorem kb_41 : (Int8.ofInt (41)).toInt32 = 41 := by decide
theorem kb_56 : (Int8.ofInt (56)).toInt32 = 56 := by decide
theorem kb_80 : (Int8.ofInt (80)).toInt32 = 80 := by decide
theorem kb_100 : (Int8.ofInt (100)).toInt32 = 100 := by decide
theorem kb_101 : (Int8.ofInt (101)).toInt32 = 101 := by decide
theorem kb_126 : (Int8.ofInt (126)).toInt32 = 126 := by decide
theorem ks_255 : (Int16.ofInt (255)).toInt32 = 255 := by decide
theorem ks_409 : (Int16.ofInt (409)).toInt32 = 409 := by decide
theorem ks_410 : (Int16.ofInt (410)).toInt32 = 410 := by decide
theorem ks_5000 : (Int16.ofInt (5000)).toInt32 = 5000 := by decide
theorem jOut0_5 {x : Int32} (h0 : ¬ x = 0) (h1 : ¬ x = 1) (h2 : ¬ x = 2) (h3 : ¬ x = 3) (h4 : ¬ x = 4) (h5 : ¬ x = 5) : x.toInt < 0 ∨ 5 < x.toInt := by
  by_cases p1 : x.toInt < 0
  · exact Or.inl p1
  · by_cases p2 : 5 < x.toInt
    · exact Or.inr p2
    exfalso
    by_cases q0 : x.toInt = 0
    · exact absurd ((jOut_int q0).trans kc_0) h0
    by_cases q1 : x.toInt = 1
    · exact absurd ((jOut_int q1).trans kc_1) h1
    by_cases q2 : x.toInt = 2
    · exact absurd ((jOut_int q2).trans kc_2) h2
    by_cases q3 : x.toInt = 3
    · exact absurd ((jOut_int q3).trans kc_3) h3
    by_cases q4 : x.toInt = 4
    · exact absurd ((jOut_int q4).trans kc_4) h4
    by_cases q5 : x.toInt = 5
    · exact absurd ((jOut_int q5).trans kc_5) h5
    omega
theorem jOut0_7 {x : Int32} (h0 : ¬ x = 0) (h1 : ¬ x = 1) (h2 : ¬ x = 2) (h3 : ¬ x = 3) (h4 : ¬ x = 4) (h5 : ¬ x = 5) (h6 : ¬ x = 6) (h7 : ¬ x = 7) : x.toInt < 0 ∨ 7 < x.toInt := by
  by_cases p1 : x.toInt < 0
  · exact Or.inl p1
  · by_cases p2 : 7 < x.toInt
    · exact Or.inr p2
    exfalso
    by_cases q0 : x.toInt = 0
    · exact absurd ((jOut_int q0).trans kc_0) h0
    by_cases q1 : x.toInt = 1
    · exact absurd ((jOut_int q1).trans kc_1) h1
    by_cases q2 : x.toInt = 2
    · exact absurd ((jOut_int q2).trans kc_2) h2
    by_cases q3 : x.toInt = 3
    · exact absurd ((jOut_int q3).trans kc_3) h3
    by_cases q4 : x.toInt = 4
    · exact absurd ((jOut_int q4).trans kc_4) h4
    by_cases q5 : x.toInt = 5
    · exact absurd ((jOut_int q5).trans kc_5) h5
    by_cases q6 : x.toInt = 6
    · exact absurd ((jOut_int q6).trans kc_6) h6
    by_cases q7 : x.toInt = 7
    · exact absurd ((jOut_int q7).trans kc_7) h7
    omega
theorem jOut0_8 {x : Int32} (h0 : ¬ x = 0) (h1 : ¬ x = 1) (h2 : ¬ x = 2) (h3 : ¬ x = 3) (h4 : ¬ x = 4) (h5 : ¬ x = 5) (h6 : ¬ x = 6) (h7 : ¬ x = 7) (h8 : ¬ x = 8) : x.toInt < 0 ∨ 8 < x.toInt := by
  by_cases p1 : x.toInt < 0
  · exact Or.inl p1
  · by_cases p2 : 8 < x.toInt
    · exact Or.inr p2
    exfalso
    by_cases q0 : x.toInt = 0
    · exact absurd ((jOut_int q0).trans kc_0) h0
    by_cases q1 : x.toInt = 1
    · exact absurd ((jOut_int q1).trans kc_1) h1
    by_cases q2 : x.toInt = 2
    · exact absurd ((jOut_int q2).trans kc_2) h2
    by_cases q3 : x.toInt = 3
    · exact absurd ((jOut_int q3).trans kc_3) h3
    by_cases q4 : x.toInt = 4
    · exact absurd ((jOut_int q4).trans kc_4) h4
    by_cases q5 : x.toInt = 5
    · exact absurd ((jOut_int q5).trans kc_5) h5
    by_cases q6 : x.toInt = 6
    · exact absurd ((jOut_int q6).trans kc_6) h6
    by_cases q7 : x.toInt = 7
    · exact absurd ((jOut_int q7).trans kc_7) h7
    by_cases q8 : x.toInt = 8
    · exact absurd ((jOut_int q8).trans kc_8) h8
    omega
theorem jOut2_5 {x : Int32} (h2 : ¬ x = 2) (h3 : ¬ x = 3) (h4 : ¬ x = 4) (h5 : ¬ x = 5) : x.toInt < 2 ∨ 5 < x.toInt := by
  by_cases p1 : x.toInt < 2
  · exact Or.inl p1
  · by_cases p2 : 5 < x.toInt
    · exact Or.inr p2
    exfalso
    by_cases q2 : x.toInt = 2
    · exact absurd ((jOut_int q2).trans kc_2) h2
    by_cases q3 : x.toInt = 3
    · exact absurd ((jOut_int q3).trans kc_3) h3
    by_cases q4 : x.toInt = 4
    · exact absurd ((jOut_int q4).trans kc_4) h4
    by_cases q5 : x.toInt = 5
    · exact absurd ((jOut_int q5).trans kc_5) h5
    omega
