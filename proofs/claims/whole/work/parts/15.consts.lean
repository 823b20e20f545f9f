/-! constants -/
def cd_fu : Nat := 20000
theorem cd_cpI {y pc idx k0 n0 k1 n1 : Nat} {st : List Value} {M : cd_M} {sp dp n : Int32} (q : Nat) (hq : cd_at2 cd_nat (cd_own y) idx = some (3, q)) (hb : (Nat.ble 1 (cd_mf.getD y 0) && Nat.ble (cd_cat st + 18) (cd_mw.getD y 0)) = true) (hk0 : cd_sh k0 = (20, n0)) (hk1 : cd_sh k1 = (20, n1)) (h : cd_cpOK sp dp n n0 n1) : cd_oth y pc 3 (.invokestatic idx) (.int n :: .int dp :: .ref k1 :: .int sp :: .ref k0 :: st) M = some (.inl (pc + 3, st, cd_cI M k0 k1 sp.toNatClampNeg dp.toNatClampNeg n.toNatClampNeg)) := by
  show (match cd_at2 cd_nat (cd_own y) idx with
    | some (n9, _) => cd_math n9 (.int n :: .int dp :: .ref k1 :: .int sp :: .ref k0 :: st) y pc M
    | none => cd_call y idx false (.int n :: .int dp :: .ref k1 :: .int sp :: .ref k0 :: st)) = _
  rw [hq]
  show (bif Nat.ble 1 (cd_mf.getD y 0) && Nat.ble (cd_cat st + 18) (cd_mw.getD y 0) then _ else none) = _
  rw [hb]
  show (if (cd_sh k0).1 = (cd_sh k1).1 ∧ ¬ sp < 0 ∧ ¬ dp < 0 ∧ ¬ n < 0 ∧ sp.toNatClampNeg + n.toNatClampNeg ≤ (cd_sh k0).2 ∧ dp.toNatClampNeg + n.toNatClampNeg ≤ (cd_sh k1).2 then
        (if (cd_sh k0).1 = 20 then cd_go (pc + 3) st (cd_cI M k0 k1 sp.toNatClampNeg dp.toNatClampNeg n.toNatClampNeg)
        else if (cd_sh k0).1 = 21 then cd_go (pc + 3) st (cd_cL M k0 k1 sp.toNatClampNeg dp.toNatClampNeg n.toNatClampNeg) else none)
      else none) = _
  rw [hk0, hk1, if_pos ⟨rfl, h⟩]
  rfl
theorem cd_cpL {y pc idx k0 n0 k1 n1 : Nat} {st : List Value} {M : cd_M} {sp dp n : Int32} (q : Nat) (hq : cd_at2 cd_nat (cd_own y) idx = some (3, q)) (hb : (Nat.ble 1 (cd_mf.getD y 0) && Nat.ble (cd_cat st + 18) (cd_mw.getD y 0)) = true) (hk0 : cd_sh k0 = (21, n0)) (hk1 : cd_sh k1 = (21, n1)) (h : cd_cpOK sp dp n n0 n1) : cd_oth y pc 3 (.invokestatic idx) (.int n :: .int dp :: .ref k1 :: .int sp :: .ref k0 :: st) M = some (.inl (pc + 3, st, cd_cL M k0 k1 sp.toNatClampNeg dp.toNatClampNeg n.toNatClampNeg)) := by
  show (match cd_at2 cd_nat (cd_own y) idx with
    | some (n9, _) => cd_math n9 (.int n :: .int dp :: .ref k1 :: .int sp :: .ref k0 :: st) y pc M
    | none => cd_call y idx false (.int n :: .int dp :: .ref k1 :: .int sp :: .ref k0 :: st)) = _
  rw [hq]
  show (bif Nat.ble 1 (cd_mf.getD y 0) && Nat.ble (cd_cat st + 18) (cd_mw.getD y 0) then _ else none) = _
  rw [hb]
  show (if (cd_sh k0).1 = (cd_sh k1).1 ∧ ¬ sp < 0 ∧ ¬ dp < 0 ∧ ¬ n < 0 ∧ sp.toNatClampNeg + n.toNatClampNeg ≤ (cd_sh k0).2 ∧ dp.toNatClampNeg + n.toNatClampNeg ≤ (cd_sh k1).2 then
        (if (cd_sh k0).1 = 20 then cd_go (pc + 3) st (cd_cI M k0 k1 sp.toNatClampNeg dp.toNatClampNeg n.toNatClampNeg)
        else if (cd_sh k0).1 = 21 then cd_go (pc + 3) st (cd_cL M k0 k1 sp.toNatClampNeg dp.toNatClampNeg n.toNatClampNeg) else none)
      else none) = _
  rw [hk0, hk1, if_pos ⟨rfl, h⟩]
  rfl
theorem cd_kjm8 : Int32.ofInt (-8) = (-8) := by decide
theorem cd_kcm8 : (Int8.ofInt (-8)).toInt32 = (-8) := by decide
theorem cd_ktm8 : (Int16.ofInt (-8)).toInt32 = (-8) := by decide
theorem cd_kjm2 : Int32.ofInt (-2) = (-2) := by decide
theorem cd_kcm2 : (Int8.ofInt (-2)).toInt32 = (-2) := by decide
theorem cd_ktm2 : (Int16.ofInt (-2)).toInt32 = (-2) := by decide
theorem cd_kjm1 : Int32.ofInt (-1) = (-1) := by decide
theorem cd_kcm1 : (Int8.ofInt (-1)).toInt32 = (-1) := by decide
theorem cd_ktm1 : (Int16.ofInt (-1)).toInt32 = (-1) := by decide
theorem cd_kj0 : Int32.ofInt (0) = (0) := by decide
theorem cd_kc0 : (Int8.ofInt (0)).toInt32 = (0) := by decide
theorem cd_kt0 : (Int16.ofInt (0)).toInt32 = (0) := by decide
theorem cd_kj1 : Int32.ofInt (1) = (1) := by decide
theorem cd_kc1 : (Int8.ofInt (1)).toInt32 = (1) := by decide
theorem cd_kt1 : (Int16.ofInt (1)).toInt32 = (1) := by decide
theorem cd_kj2 : Int32.ofInt (2) = (2) := by decide
theorem cd_kc2 : (Int8.ofInt (2)).toInt32 = (2) := by decide
theorem cd_kt2 : (Int16.ofInt (2)).toInt32 = (2) := by decide
theorem cd_kj3 : Int32.ofInt (3) = (3) := by decide
theorem cd_kc3 : (Int8.ofInt (3)).toInt32 = (3) := by decide
theorem cd_kt3 : (Int16.ofInt (3)).toInt32 = (3) := by decide
theorem cd_kj4 : Int32.ofInt (4) = (4) := by decide
theorem cd_kc4 : (Int8.ofInt (4)).toInt32 = (4) := by decide
theorem cd_kt4 : (Int16.ofInt (4)).toInt32 = (4) := by decide
theorem cd_kj5 : Int32.ofInt (5) = (5) := by decide
theorem cd_kc5 : (Int8.ofInt (5)).toInt32 = (5) := by decide
theorem cd_kt5 : (Int16.ofInt (5)).toInt32 = (5) := by decide
theorem cd_kj6 : Int32.ofInt (6) = (6) := by decide
theorem cd_kc6 : (Int8.ofInt (6)).toInt32 = (6) := by decide
theorem cd_kt6 : (Int16.ofInt (6)).toInt32 = (6) := by decide
theorem cd_kj7 : Int32.ofInt (7) = (7) := by decide
theorem cd_kc7 : (Int8.ofInt (7)).toInt32 = (7) := by decide
theorem cd_kt7 : (Int16.ofInt (7)).toInt32 = (7) := by decide
theorem cd_kj8 : Int32.ofInt (8) = (8) := by decide
theorem cd_kc8 : (Int8.ofInt (8)).toInt32 = (8) := by decide
theorem cd_kt8 : (Int16.ofInt (8)).toInt32 = (8) := by decide
theorem cd_kj9 : Int32.ofInt (9) = (9) := by decide
theorem cd_kc9 : (Int8.ofInt (9)).toInt32 = (9) := by decide
theorem cd_kt9 : (Int16.ofInt (9)).toInt32 = (9) := by decide
theorem cd_kj10 : Int32.ofInt (10) = (10) := by decide
theorem cd_kc10 : (Int8.ofInt (10)).toInt32 = (10) := by decide
theorem cd_kt10 : (Int16.ofInt (10)).toInt32 = (10) := by decide
theorem cd_kj11 : Int32.ofInt (11) = (11) := by decide
theorem cd_kc11 : (Int8.ofInt (11)).toInt32 = (11) := by decide
theorem cd_kt11 : (Int16.ofInt (11)).toInt32 = (11) := by decide
theorem cd_kj12 : Int32.ofInt (12) = (12) := by decide
theorem cd_kc12 : (Int8.ofInt (12)).toInt32 = (12) := by decide
theorem cd_kt12 : (Int16.ofInt (12)).toInt32 = (12) := by decide
theorem cd_kj20 : Int32.ofInt (20) = (20) := by decide
theorem cd_kc20 : (Int8.ofInt (20)).toInt32 = (20) := by decide
theorem cd_kt20 : (Int16.ofInt (20)).toInt32 = (20) := by decide
theorem cd_kj24 : Int32.ofInt (24) = (24) := by decide
theorem cd_kc24 : (Int8.ofInt (24)).toInt32 = (24) := by decide
theorem cd_kt24 : (Int16.ofInt (24)).toInt32 = (24) := by decide
theorem cd_kj25 : Int32.ofInt (25) = (25) := by decide
theorem cd_kc25 : (Int8.ofInt (25)).toInt32 = (25) := by decide
theorem cd_kt25 : (Int16.ofInt (25)).toInt32 = (25) := by decide
theorem cd_kj32 : Int32.ofInt (32) = (32) := by decide
theorem cd_kc32 : (Int8.ofInt (32)).toInt32 = (32) := by decide
theorem cd_kt32 : (Int16.ofInt (32)).toInt32 = (32) := by decide
theorem cd_kj40 : Int32.ofInt (40) = (40) := by decide
theorem cd_kc40 : (Int8.ofInt (40)).toInt32 = (40) := by decide
theorem cd_kt40 : (Int16.ofInt (40)).toInt32 = (40) := by decide
theorem cd_kj42 : Int32.ofInt (42) = (42) := by decide
theorem cd_kc42 : (Int8.ofInt (42)).toInt32 = (42) := by decide
theorem cd_kt42 : (Int16.ofInt (42)).toInt32 = (42) := by decide
theorem cd_kj48 : Int32.ofInt (48) = (48) := by decide
theorem cd_kc48 : (Int8.ofInt (48)).toInt32 = (48) := by decide
theorem cd_kt48 : (Int16.ofInt (48)).toInt32 = (48) := by decide
theorem cd_kj57 : Int32.ofInt (57) = (57) := by decide
theorem cd_kc57 : (Int8.ofInt (57)).toInt32 = (57) := by decide
theorem cd_kt57 : (Int16.ofInt (57)).toInt32 = (57) := by decide
theorem cd_kj59 : Int32.ofInt (59) = (59) := by decide
theorem cd_kc59 : (Int8.ofInt (59)).toInt32 = (59) := by decide
theorem cd_kt59 : (Int16.ofInt (59)).toInt32 = (59) := by decide
theorem cd_kj63 : Int32.ofInt (63) = (63) := by decide
theorem cd_kc63 : (Int8.ofInt (63)).toInt32 = (63) := by decide
theorem cd_kt63 : (Int16.ofInt (63)).toInt32 = (63) := by decide
theorem cd_kj90 : Int32.ofInt (90) = (90) := by decide
theorem cd_kc90 : (Int8.ofInt (90)).toInt32 = (90) := by decide
theorem cd_kt90 : (Int16.ofInt (90)).toInt32 = (90) := by decide
theorem cd_kj97 : Int32.ofInt (97) = (97) := by decide
theorem cd_kc97 : (Int8.ofInt (97)).toInt32 = (97) := by decide
theorem cd_kt97 : (Int16.ofInt (97)).toInt32 = (97) := by decide
theorem cd_kj99 : Int32.ofInt (99) = (99) := by decide
theorem cd_kc99 : (Int8.ofInt (99)).toInt32 = (99) := by decide
theorem cd_kt99 : (Int16.ofInt (99)).toInt32 = (99) := by decide
theorem cd_kj100 : Int32.ofInt (100) = (100) := by decide
theorem cd_kc100 : (Int8.ofInt (100)).toInt32 = (100) := by decide
theorem cd_kt100 : (Int16.ofInt (100)).toInt32 = (100) := by decide
theorem cd_kj101 : Int32.ofInt (101) = (101) := by decide
theorem cd_kc101 : (Int8.ofInt (101)).toInt32 = (101) := by decide
theorem cd_kt101 : (Int16.ofInt (101)).toInt32 = (101) := by decide
theorem cd_kj102 : Int32.ofInt (102) = (102) := by decide
theorem cd_kc102 : (Int8.ofInt (102)).toInt32 = (102) := by decide
theorem cd_kt102 : (Int16.ofInt (102)).toInt32 = (102) := by decide
theorem cd_kj104 : Int32.ofInt (104) = (104) := by decide
theorem cd_kc104 : (Int8.ofInt (104)).toInt32 = (104) := by decide
theorem cd_kt104 : (Int16.ofInt (104)).toInt32 = (104) := by decide
theorem cd_kj105 : Int32.ofInt (105) = (105) := by decide
theorem cd_kc105 : (Int8.ofInt (105)).toInt32 = (105) := by decide
theorem cd_kt105 : (Int16.ofInt (105)).toInt32 = (105) := by decide
theorem cd_kj107 : Int32.ofInt (107) = (107) := by decide
theorem cd_kc107 : (Int8.ofInt (107)).toInt32 = (107) := by decide
theorem cd_kt107 : (Int16.ofInt (107)).toInt32 = (107) := by decide
theorem cd_kj108 : Int32.ofInt (108) = (108) := by decide
theorem cd_kc108 : (Int8.ofInt (108)).toInt32 = (108) := by decide
theorem cd_kt108 : (Int16.ofInt (108)).toInt32 = (108) := by decide
theorem cd_kj109 : Int32.ofInt (109) = (109) := by decide
theorem cd_kc109 : (Int8.ofInt (109)).toInt32 = (109) := by decide
theorem cd_kt109 : (Int16.ofInt (109)).toInt32 = (109) := by decide
theorem cd_kj110 : Int32.ofInt (110) = (110) := by decide
theorem cd_kc110 : (Int8.ofInt (110)).toInt32 = (110) := by decide
theorem cd_kt110 : (Int16.ofInt (110)).toInt32 = (110) := by decide
theorem cd_kj111 : Int32.ofInt (111) = (111) := by decide
theorem cd_kc111 : (Int8.ofInt (111)).toInt32 = (111) := by decide
theorem cd_kt111 : (Int16.ofInt (111)).toInt32 = (111) := by decide
theorem cd_kj114 : Int32.ofInt (114) = (114) := by decide
theorem cd_kc114 : (Int8.ofInt (114)).toInt32 = (114) := by decide
theorem cd_kt114 : (Int16.ofInt (114)).toInt32 = (114) := by decide
theorem cd_kj115 : Int32.ofInt (115) = (115) := by decide
theorem cd_kc115 : (Int8.ofInt (115)).toInt32 = (115) := by decide
theorem cd_kt115 : (Int16.ofInt (115)).toInt32 = (115) := by decide
theorem cd_kj116 : Int32.ofInt (116) = (116) := by decide
theorem cd_kc116 : (Int8.ofInt (116)).toInt32 = (116) := by decide
theorem cd_kt116 : (Int16.ofInt (116)).toInt32 = (116) := by decide
theorem cd_kj117 : Int32.ofInt (117) = (117) := by decide
theorem cd_kc117 : (Int8.ofInt (117)).toInt32 = (117) := by decide
theorem cd_kt117 : (Int16.ofInt (117)).toInt32 = (117) := by decide
theorem cd_kj119 : Int32.ofInt (119) = (119) := by decide
theorem cd_kc119 : (Int8.ofInt (119)).toInt32 = (119) := by decide
theorem cd_kt119 : (Int16.ofInt (119)).toInt32 = (119) := by decide
theorem cd_kj121 : Int32.ofInt (121) = (121) := by decide
theorem cd_kc121 : (Int8.ofInt (121)).toInt32 = (121) := by decide
theorem cd_kt121 : (Int16.ofInt (121)).toInt32 = (121) := by decide
theorem cd_kj122 : Int32.ofInt (122) = (122) := by decide
theorem cd_kc122 : (Int8.ofInt (122)).toInt32 = (122) := by decide
theorem cd_kt122 : (Int16.ofInt (122)).toInt32 = (122) := by decide
theorem cd_kj128 : Int32.ofInt (128) = (128) := by decide
theorem cd_kt128 : (Int16.ofInt (128)).toInt32 = (128) := by decide
theorem cd_kj150 : Int32.ofInt (150) = (150) := by decide
theorem cd_kt150 : (Int16.ofInt (150)).toInt32 = (150) := by decide
theorem cd_kj225 : Int32.ofInt (225) = (225) := by decide
theorem cd_kt225 : (Int16.ofInt (225)).toInt32 = (225) := by decide
theorem cd_kj240 : Int32.ofInt (240) = (240) := by decide
theorem cd_kt240 : (Int16.ofInt (240)).toInt32 = (240) := by decide
theorem cd_kj255 : Int32.ofInt (255) = (255) := by decide
theorem cd_kt255 : (Int16.ofInt (255)).toInt32 = (255) := by decide
theorem cd_kj630 : Int32.ofInt (630) = (630) := by decide
theorem cd_kt630 : (Int16.ofInt (630)).toInt32 = (630) := by decide
theorem cd_kj900 : Int32.ofInt (900) = (900) := by decide
theorem cd_kt900 : (Int16.ofInt (900)).toInt32 = (900) := by decide
theorem cd_kj999 : Int32.ofInt (999) = (999) := by decide
theorem cd_kt999 : (Int16.ofInt (999)).toInt32 = (999) := by decide
theorem cd_kj6930 : Int32.ofInt (6930) = (6930) := by decide
theorem cd_kt6930 : (Int16.ofInt (6930)).toInt32 = (6930) := by decide
