/-! ===== the world behind the constructors ===== -/
def K109 : aK := [(14, 11), (13, 8), (6, 13), (0, 6), (0, 6), (0, 6), (0, 6), (0, 6), (0, 6), (0, 6), (0, 25), (10, 3), (0, 1800), (7, 5), (0, 10), (0, 10), (0, 10), (7, 5), (0, 8), (0, 8), (0, 8), (7, 5), (0, 5), (0, 5), (0, 5), (7, 5), (0, 8), (0, 8), (0, 8), (13, 8), (6, 13), (0, 6), (0, 6), (0, 6), (0, 6), (0, 6), (0, 6), (0, 6), (0, 25), (10, 3), (0, 1800), (7, 5), (0, 10), (0, 10), (0, 10), (7, 5), (0, 8), (0, 8), (0, 8), (7, 5), (0, 5), (0, 5), (0, 5), (7, 5), (0, 8), (0, 8), (0, 8), (3, 4), (11, 10), (0, 24), (0, 24), (0, 24), (0, 300), (11, 10), (0, 24), (0, 24), (0, 24), (0, 300), (11, 10), (0, 24), (0, 24), (0, 24), (0, 300), (11, 10), (0, 24), (0, 24), (0, 24), (0, 300), (11, 10), (0, 24), (0, 24), (0, 24), (0, 300), (9, 12), (0, 300), (0, 301), (0, 301), (0, 301), (11, 10), (0, 24), (0, 24), (0, 24), (0, 300), (5, 2), (0, 64), (8, 7), (0, 448), (0, 6), (0, 6), (12, 4), (0, 10), (0, 10), (0, 10), (4, 3), (0, 5), (0, 5), (0, 6), (0, 60), (15, 33)]
def t0 : w_T := (K109, s284.2)
noncomputable def z0 : aH := w_C t0
theorem w284_z : w284 = z0 := by
  rw [v284]
  have e : s284.1 = K109 := by decide +kernel
  show ((s284.1, Rw s284.2.1, Dw s284.2.2, fun _ _ => 0) : aH) = (K109, Rw s284.2.1, Dw s284.2.2, fun _ _ => 0)
  rw [e]
theorem y0 : z0 = w_C t0 := rfl
noncomputable def z1 : aH := a_new z0 (0, ((nI 1961)).toNatClampNeg)
noncomputable def z2 : aH := a_uR z1 108 0 (some 109)
noncomputable def z3 : aH := a_new z2 (0, ((nI 1961)).toNatClampNeg)
noncomputable def z4 : aH := a_uR z3 108 1 (some 110)
noncomputable def z5 : aH := a_new z4 (0, ((nI 2724)).toNatClampNeg)
noncomputable def z6 : aH := a_uR z5 108 2 (some 111)
noncomputable def z7 : aH := a_new z6 (0, ((nI 300)).toNatClampNeg)
noncomputable def z8 : aH := a_uR z7 108 3 (some 112)
noncomputable def z9 : aH := a_uI z8 108 5 (-(nI 1))
noncomputable def z10 : aH := a_uI z9 108 6 (-(nI 1))
noncomputable def z11 : aH := a_new z10 (0, ((nI 160)).toNatClampNeg)
noncomputable def z12 : aH := a_uR z11 108 15 (some 113)
noncomputable def z13 : aH := a_new z12 (0, ((nI 8)).toNatClampNeg)
noncomputable def z14 : aH := a_uR z13 108 20 (some 114)
noncomputable def z15 : aH := a_new z14 (1, ((nI 330)).toNatClampNeg)
noncomputable def z16 : aH := a_uR z15 108 21 (some 115)
noncomputable def z17 : aH := a_new z16 (2, ((nI 330)).toNatClampNeg)
noncomputable def z18 : aH := a_uR z17 108 22 (some 116)
noncomputable def z19 : aH := a_uI z18 108 23 (nI 1)
noncomputable def z20 : aH := a_new z19 (0, ((nI 42)).toNatClampNeg)
noncomputable def z21 : aH := a_uR z20 108 25 (some 117)
noncomputable def z22 : aH := a_new z21 (0, ((nI 10)).toNatClampNeg)
noncomputable def z23 : aH := a_uR z22 108 29 (some 118)
noncomputable def z24 : aH := a_new z23 (2, ((nI 169)).toNatClampNeg)
noncomputable def z25 : aH := a_uR z24 108 32 (some 119)
noncomputable def z26 : aH := a_uI z25 109 ((nI 10)).toNatClampNeg (nI 397)
noncomputable def z27 : aH := a_uI z26 109 ((nI 3)).toNatClampNeg (-(nI 1))
def t1 : w_T := w_a4 t0 (0, 0, 1961, 0, 0)
theorem y1 : z1 = w_C t1 := by
  show a_new z0 (0, ((nI 1961)).toNatClampNeg) = _
  rw [show ((nI 1961)).toNatClampNeg = 1961 from by decide +kernel]
  rw [y0]
  exact w_step t0 (0, 0, 1961, 0, 0) (by decide +kernel)
def t2 : w_T := w_a4 t1 (1, 108, 0, 109, 0)
theorem y2 : z2 = w_C t2 := by
  show a_uR z1 108 0 (some 109) = _
  rw [y1]
  exact w_step t1 (1, 108, 0, 109, 0) (by decide +kernel)
def t3 : w_T := w_a4 t2 (0, 0, 1961, 0, 0)
theorem y3 : z3 = w_C t3 := by
  show a_new z2 (0, ((nI 1961)).toNatClampNeg) = _
  rw [show ((nI 1961)).toNatClampNeg = 1961 from by decide +kernel]
  rw [y2]
  exact w_step t2 (0, 0, 1961, 0, 0) (by decide +kernel)
def t4 : w_T := w_a4 t3 (1, 108, 1, 110, 0)
theorem y4 : z4 = w_C t4 := by
  show a_uR z3 108 1 (some 110) = _
  rw [y3]
  exact w_step t3 (1, 108, 1, 110, 0) (by decide +kernel)
def t5 : w_T := w_a4 t4 (0, 0, 2724, 0, 0)
theorem y5 : z5 = w_C t5 := by
  show a_new z4 (0, ((nI 2724)).toNatClampNeg) = _
  rw [show ((nI 2724)).toNatClampNeg = 2724 from by decide +kernel]
  rw [y4]
  exact w_step t4 (0, 0, 2724, 0, 0) (by decide +kernel)
def t6 : w_T := w_a4 t5 (1, 108, 2, 111, 0)
theorem y6 : z6 = w_C t6 := by
  show a_uR z5 108 2 (some 111) = _
  rw [y5]
  exact w_step t5 (1, 108, 2, 111, 0) (by decide +kernel)
def t7 : w_T := w_a4 t6 (0, 0, 300, 0, 0)
theorem y7 : z7 = w_C t7 := by
  show a_new z6 (0, ((nI 300)).toNatClampNeg) = _
  rw [show ((nI 300)).toNatClampNeg = 300 from by decide +kernel]
  rw [y6]
  exact w_step t6 (0, 0, 300, 0, 0) (by decide +kernel)
def t8 : w_T := w_a4 t7 (1, 108, 3, 112, 0)
theorem y8 : z8 = w_C t8 := by
  show a_uR z7 108 3 (some 112) = _
  rw [y7]
  exact w_step t7 (1, 108, 3, 112, 0) (by decide +kernel)
def t9 : w_T := w_a4 t8 (2, 108, 5, 0, (-(nI 1)))
theorem y9 : z9 = w_C t9 := by
  show a_uI z8 108 5 (-(nI 1)) = _
  rw [y8]
  exact w_step t8 (2, 108, 5, 0, (-(nI 1))) (by decide +kernel)
def t10 : w_T := w_a4 t9 (2, 108, 6, 0, (-(nI 1)))
theorem y10 : z10 = w_C t10 := by
  show a_uI z9 108 6 (-(nI 1)) = _
  rw [y9]
  exact w_step t9 (2, 108, 6, 0, (-(nI 1))) (by decide +kernel)
def t11 : w_T := w_a4 t10 (0, 0, 160, 0, 0)
theorem y11 : z11 = w_C t11 := by
  show a_new z10 (0, ((nI 160)).toNatClampNeg) = _
  rw [show ((nI 160)).toNatClampNeg = 160 from by decide +kernel]
  rw [y10]
  exact w_step t10 (0, 0, 160, 0, 0) (by decide +kernel)
def t12 : w_T := w_a4 t11 (1, 108, 15, 113, 0)
theorem y12 : z12 = w_C t12 := by
  show a_uR z11 108 15 (some 113) = _
  rw [y11]
  exact w_step t11 (1, 108, 15, 113, 0) (by decide +kernel)
def t13 : w_T := w_a4 t12 (0, 0, 8, 0, 0)
theorem y13 : z13 = w_C t13 := by
  show a_new z12 (0, ((nI 8)).toNatClampNeg) = _
  rw [show ((nI 8)).toNatClampNeg = 8 from by decide +kernel]
  rw [y12]
  exact w_step t12 (0, 0, 8, 0, 0) (by decide +kernel)
def t14 : w_T := w_a4 t13 (1, 108, 20, 114, 0)
theorem y14 : z14 = w_C t14 := by
  show a_uR z13 108 20 (some 114) = _
  rw [y13]
  exact w_step t13 (1, 108, 20, 114, 0) (by decide +kernel)
def t15 : w_T := w_a4 t14 (0, 1, 330, 0, 0)
theorem y15 : z15 = w_C t15 := by
  show a_new z14 (1, ((nI 330)).toNatClampNeg) = _
  rw [show ((nI 330)).toNatClampNeg = 330 from by decide +kernel]
  rw [y14]
  exact w_step t14 (0, 1, 330, 0, 0) (by decide +kernel)
def t16 : w_T := w_a4 t15 (1, 108, 21, 115, 0)
theorem y16 : z16 = w_C t16 := by
  show a_uR z15 108 21 (some 115) = _
  rw [y15]
  exact w_step t15 (1, 108, 21, 115, 0) (by decide +kernel)
def t17 : w_T := w_a4 t16 (0, 2, 330, 0, 0)
theorem y17 : z17 = w_C t17 := by
  show a_new z16 (2, ((nI 330)).toNatClampNeg) = _
  rw [show ((nI 330)).toNatClampNeg = 330 from by decide +kernel]
  rw [y16]
  exact w_step t16 (0, 2, 330, 0, 0) (by decide +kernel)
def t18 : w_T := w_a4 t17 (1, 108, 22, 116, 0)
theorem y18 : z18 = w_C t18 := by
  show a_uR z17 108 22 (some 116) = _
  rw [y17]
  exact w_step t17 (1, 108, 22, 116, 0) (by decide +kernel)
def t19 : w_T := w_a4 t18 (2, 108, 23, 0, (nI 1))
theorem y19 : z19 = w_C t19 := by
  show a_uI z18 108 23 (nI 1) = _
  rw [y18]
  exact w_step t18 (2, 108, 23, 0, (nI 1)) (by decide +kernel)
def t20 : w_T := w_a4 t19 (0, 0, 42, 0, 0)
theorem y20 : z20 = w_C t20 := by
  show a_new z19 (0, ((nI 42)).toNatClampNeg) = _
  rw [show ((nI 42)).toNatClampNeg = 42 from by decide +kernel]
  rw [y19]
  exact w_step t19 (0, 0, 42, 0, 0) (by decide +kernel)
def t21 : w_T := w_a4 t20 (1, 108, 25, 117, 0)
theorem y21 : z21 = w_C t21 := by
  show a_uR z20 108 25 (some 117) = _
  rw [y20]
  exact w_step t20 (1, 108, 25, 117, 0) (by decide +kernel)
def t22 : w_T := w_a4 t21 (0, 0, 10, 0, 0)
theorem y22 : z22 = w_C t22 := by
  show a_new z21 (0, ((nI 10)).toNatClampNeg) = _
  rw [show ((nI 10)).toNatClampNeg = 10 from by decide +kernel]
  rw [y21]
  exact w_step t21 (0, 0, 10, 0, 0) (by decide +kernel)
def t23 : w_T := w_a4 t22 (1, 108, 29, 118, 0)
theorem y23 : z23 = w_C t23 := by
  show a_uR z22 108 29 (some 118) = _
  rw [y22]
  exact w_step t22 (1, 108, 29, 118, 0) (by decide +kernel)
def t24 : w_T := w_a4 t23 (0, 2, 169, 0, 0)
theorem y24 : z24 = w_C t24 := by
  show a_new z23 (2, ((nI 169)).toNatClampNeg) = _
  rw [show ((nI 169)).toNatClampNeg = 169 from by decide +kernel]
  rw [y23]
  exact w_step t23 (0, 2, 169, 0, 0) (by decide +kernel)
def t25 : w_T := w_a4 t24 (1, 108, 32, 119, 0)
theorem y25 : z25 = w_C t25 := by
  show a_uR z24 108 32 (some 119) = _
  rw [y24]
  exact w_step t24 (1, 108, 32, 119, 0) (by decide +kernel)
def t26 : w_T := w_a4 t25 (2, 109, 10, 0, (nI 397))
theorem y26 : z26 = w_C t26 := by
  show a_uI z25 109 ((nI 10)).toNatClampNeg (nI 397) = _
  rw [show ((nI 10)).toNatClampNeg = 10 from by decide +kernel]
  rw [y25]
  exact w_step t25 (2, 109, 10, 0, (nI 397)) (by decide +kernel)
def t27 : w_T := w_a4 t26 (2, 109, 3, 0, (-(nI 1)))
theorem y27 : z27 = w_C t27 := by
  show a_uI z26 109 ((nI 3)).toNatClampNeg (-(nI 1)) = _
  rw [show ((nI 3)).toNatClampNeg = 3 from by decide +kernel]
  rw [y26]
  exact w_step t26 (2, 109, 3, 0, (-(nI 1))) (by decide +kernel)
def dt0 : List (List Int32) := t27.2.2
theorem w_end : z27 = hp (Dw dt0) (fun _ _ => 0) := by
  rw [y27]
  show ((t27.1, Rw t27.2.1, Dw t27.2.2, fun _ _ => 0) : aH) = (SH, RF, Dw t27.2.2, fun _ _ => 0)
  have e1 : t27.1 = SH := by decide +kernel
  have e2 : Rw t27.2.1 = RF := by
    funext o j
    exact w_eq2_nth none t27.2.1 RFt o j (by decide +kernel)
  rw [e1, e2]
set_option maxRecDepth 100000 in
theorem inX11_init_108 {G : aG} {l : Launch} {dF : aI} {eF : aJ} (hc : FX11_copyn (Dw dt0) (fun _ _ => 0) = some ((), dF, eF)) : a_Ev G l 1 mX11_init [.ref 108] z0 none (hp dF eF) := by
  refine a_Ev.of (by decide) ⟨show z0.1.length ≤ SH.length from by decide +kernel, show a_sz z0.1 ≤ a_sz SH from by decide +kernel⟩ rfl (Nat.le_of_ble_eq_true rfl) (fun z => rfl) ?_
  show a_Rn _ _ _ mX11_init _ _ 0 [some (.ref 108)] [] z0 none (hp dF eF)
  refine a_Rn.blk (M := mX11_init) okX11_init (show a_ch cX11_init 0 [.aload_n 0, .invokespecial 1, .aload_n 0, .sipush 1961, .newarray .int, .putfield 7] 13 = true by decide +kernel) (show a_xs fk11 11 true (SH.length, a_sz SH) [.aload_n 0, .invokespecial 1, .aload_n 0, .sipush 1961, .newarray .int, .putfield 7] [some (.ref 108)] [] z0 = some ([(¬ (nI 1961) < 0 ∧ ((nI 1961)).toNatClampNeg ≤ 10000), (z0.1.length + 1 ≤ 1000 ∧ z0.1.length + 1 ≤ SH.length ∧ a_sz z0.1 + ((nI 1961)).toNatClampNeg ≤ a_sz SH)], [some (.ref 108)], [], z2) from rfl) ⟨(show (¬ (nI 1961) < 0 ∧ ((nI 1961)).toNatClampNeg ≤ 10000) from by decide +kernel), (show (z0.1.length + 1 ≤ 1000 ∧ z0.1.length + 1 ≤ SH.length ∧ a_sz z0.1 + ((nI 1961)).toNatClampNeg ≤ a_sz SH) from by decide +kernel)⟩ ?_
  refine a_Rn.blk (M := mX11_init) okX11_init (show a_ch cX11_init 13 [.aload_n 0, .sipush 1961, .newarray .int, .putfield 13] 22 = true by decide +kernel) (show a_xs fk11 11 true (SH.length, a_sz SH) [.aload_n 0, .sipush 1961, .newarray .int, .putfield 13] [some (.ref 108)] [] z2 = some ([(¬ (nI 1961) < 0 ∧ ((nI 1961)).toNatClampNeg ≤ 10000), (z2.1.length + 1 ≤ 1000 ∧ z2.1.length + 1 ≤ SH.length ∧ a_sz z2.1 + ((nI 1961)).toNatClampNeg ≤ a_sz SH)], [some (.ref 108)], [], z4) from rfl) ⟨(show (¬ (nI 1961) < 0 ∧ ((nI 1961)).toNatClampNeg ≤ 10000) from by decide +kernel), (show (z2.1.length + 1 ≤ 1000 ∧ z2.1.length + 1 ≤ SH.length ∧ a_sz z2.1 + ((nI 1961)).toNatClampNeg ≤ a_sz SH) from by decide +kernel)⟩ ?_
  refine a_Rn.blk (M := mX11_init) okX11_init (show a_ch cX11_init 22 [.aload_n 0, .sipush 2724, .newarray .int, .putfield 16] 31 = true by decide +kernel) (show a_xs fk11 11 true (SH.length, a_sz SH) [.aload_n 0, .sipush 2724, .newarray .int, .putfield 16] [some (.ref 108)] [] z4 = some ([(¬ (nI 2724) < 0 ∧ ((nI 2724)).toNatClampNeg ≤ 10000), (z4.1.length + 1 ≤ 1000 ∧ z4.1.length + 1 ≤ SH.length ∧ a_sz z4.1 + ((nI 2724)).toNatClampNeg ≤ a_sz SH)], [some (.ref 108)], [], z6) from rfl) ⟨(show (¬ (nI 2724) < 0 ∧ ((nI 2724)).toNatClampNeg ≤ 10000) from by decide +kernel), (show (z4.1.length + 1 ≤ 1000 ∧ z4.1.length + 1 ≤ SH.length ∧ a_sz z4.1 + ((nI 2724)).toNatClampNeg ≤ a_sz SH) from by decide +kernel)⟩ ?_
  refine a_Rn.blk (M := mX11_init) okX11_init (show a_ch cX11_init 31 [.aload_n 0, .sipush 300, .newarray .int, .putfield 19] 40 = true by decide +kernel) (show a_xs fk11 11 true (SH.length, a_sz SH) [.aload_n 0, .sipush 300, .newarray .int, .putfield 19] [some (.ref 108)] [] z6 = some ([(¬ (nI 300) < 0 ∧ ((nI 300)).toNatClampNeg ≤ 10000), (z6.1.length + 1 ≤ 1000 ∧ z6.1.length + 1 ≤ SH.length ∧ a_sz z6.1 + ((nI 300)).toNatClampNeg ≤ a_sz SH)], [some (.ref 108)], [], z8) from rfl) ⟨(show (¬ (nI 300) < 0 ∧ ((nI 300)).toNatClampNeg ≤ 10000) from by decide +kernel), (show (z6.1.length + 1 ≤ 1000 ∧ z6.1.length + 1 ≤ SH.length ∧ a_sz z6.1 + ((nI 300)).toNatClampNeg ≤ a_sz SH) from by decide +kernel)⟩ ?_
  refine a_Rn.blk (M := mX11_init) okX11_init (show a_ch cX11_init 40 [.aload_n 0, .iconst (-1), .putfield 22] 45 = true by decide +kernel) (show a_xs fk11 11 true (SH.length, a_sz SH) [.aload_n 0, .iconst (-1), .putfield 22] [some (.ref 108)] [] z8 = some ([], [some (.ref 108)], [], z9) from rfl) trivial ?_
  refine a_Rn.blk (M := mX11_init) okX11_init (show a_ch cX11_init 45 [.aload_n 0, .iconst (-1), .putfield 26] 50 = true by decide +kernel) (show a_xs fk11 11 true (SH.length, a_sz SH) [.aload_n 0, .iconst (-1), .putfield 26] [some (.ref 108)] [] z9 = some ([], [some (.ref 108)], [], z10) from rfl) trivial ?_
  refine a_Rn.blk (M := mX11_init) okX11_init (show a_ch cX11_init 50 [.aload_n 0, .sipush 160, .newarray .int, .putfield 29] 59 = true by decide +kernel) (show a_xs fk11 11 true (SH.length, a_sz SH) [.aload_n 0, .sipush 160, .newarray .int, .putfield 29] [some (.ref 108)] [] z10 = some ([(¬ (nI 160) < 0 ∧ ((nI 160)).toNatClampNeg ≤ 10000), (z10.1.length + 1 ≤ 1000 ∧ z10.1.length + 1 ≤ SH.length ∧ a_sz z10.1 + ((nI 160)).toNatClampNeg ≤ a_sz SH)], [some (.ref 108)], [], z12) from rfl) ⟨(show (¬ (nI 160) < 0 ∧ ((nI 160)).toNatClampNeg ≤ 10000) from by decide +kernel), (show (z10.1.length + 1 ≤ 1000 ∧ z10.1.length + 1 ≤ SH.length ∧ a_sz z10.1 + ((nI 160)).toNatClampNeg ≤ a_sz SH) from by decide +kernel)⟩ ?_
  refine a_Rn.blk (M := mX11_init) okX11_init (show a_ch cX11_init 59 [.aload_n 0, .bipush 8, .newarray .int, .putfield 32] 67 = true by decide +kernel) (show a_xs fk11 11 true (SH.length, a_sz SH) [.aload_n 0, .bipush 8, .newarray .int, .putfield 32] [some (.ref 108)] [] z12 = some ([(¬ (nI 8) < 0 ∧ ((nI 8)).toNatClampNeg ≤ 10000), (z12.1.length + 1 ≤ 1000 ∧ z12.1.length + 1 ≤ SH.length ∧ a_sz z12.1 + ((nI 8)).toNatClampNeg ≤ a_sz SH)], [some (.ref 108)], [], z14) from rfl) ⟨(show (¬ (nI 8) < 0 ∧ ((nI 8)).toNatClampNeg ≤ 10000) from by decide +kernel), (show (z12.1.length + 1 ≤ 1000 ∧ z12.1.length + 1 ≤ SH.length ∧ a_sz z12.1 + ((nI 8)).toNatClampNeg ≤ a_sz SH) from by decide +kernel)⟩ ?_
  refine a_Rn.blk (M := mX11_init) okX11_init (show a_ch cX11_init 67 [.aload_n 0, .sipush 330, .newarray .long, .putfield 35] 76 = true by decide +kernel) (show a_xs fk11 11 true (SH.length, a_sz SH) [.aload_n 0, .sipush 330, .newarray .long, .putfield 35] [some (.ref 108)] [] z14 = some ([(¬ (nI 330) < 0 ∧ ((nI 330)).toNatClampNeg ≤ 10000), (z14.1.length + 1 ≤ 1000 ∧ z14.1.length + 1 ≤ SH.length ∧ a_sz z14.1 + ((nI 330)).toNatClampNeg ≤ a_sz SH)], [some (.ref 108)], [], z16) from rfl) ⟨(show (¬ (nI 330) < 0 ∧ ((nI 330)).toNatClampNeg ≤ 10000) from by decide +kernel), (show (z14.1.length + 1 ≤ 1000 ∧ z14.1.length + 1 ≤ SH.length ∧ a_sz z14.1 + ((nI 330)).toNatClampNeg ≤ a_sz SH) from by decide +kernel)⟩ ?_
  refine a_Rn.blk (M := mX11_init) okX11_init (show a_ch cX11_init 76 [.aload_n 0, .sipush 330, .newarray .boolean, .putfield 39] 85 = true by decide +kernel) (show a_xs fk11 11 true (SH.length, a_sz SH) [.aload_n 0, .sipush 330, .newarray .boolean, .putfield 39] [some (.ref 108)] [] z16 = some ([(¬ (nI 330) < 0 ∧ ((nI 330)).toNatClampNeg ≤ 10000), (z16.1.length + 1 ≤ 1000 ∧ z16.1.length + 1 ≤ SH.length ∧ a_sz z16.1 + ((nI 330)).toNatClampNeg ≤ a_sz SH)], [some (.ref 108)], [], z18) from rfl) ⟨(show (¬ (nI 330) < 0 ∧ ((nI 330)).toNatClampNeg ≤ 10000) from by decide +kernel), (show (z16.1.length + 1 ≤ 1000 ∧ z16.1.length + 1 ≤ SH.length ∧ a_sz z16.1 + ((nI 330)).toNatClampNeg ≤ a_sz SH) from by decide +kernel)⟩ ?_
  refine a_Rn.blk (M := mX11_init) okX11_init (show a_ch cX11_init 85 [.aload_n 0, .iconst 1, .putfield 43] 90 = true by decide +kernel) (show a_xs fk11 11 true (SH.length, a_sz SH) [.aload_n 0, .iconst 1, .putfield 43] [some (.ref 108)] [] z18 = some ([((nI 1) = 0 ∨ (nI 1) = 1)], [some (.ref 108)], [], z19) from rfl) (show ((nI 1) = 0 ∨ (nI 1) = 1) from by decide +kernel) ?_
  refine a_Rn.blk (M := mX11_init) okX11_init (show a_ch cX11_init 90 [.aload_n 0, .bipush 42, .newarray .int, .putfield 47] 98 = true by decide +kernel) (show a_xs fk11 11 true (SH.length, a_sz SH) [.aload_n 0, .bipush 42, .newarray .int, .putfield 47] [some (.ref 108)] [] z19 = some ([(¬ (nI 42) < 0 ∧ ((nI 42)).toNatClampNeg ≤ 10000), (z19.1.length + 1 ≤ 1000 ∧ z19.1.length + 1 ≤ SH.length ∧ a_sz z19.1 + ((nI 42)).toNatClampNeg ≤ a_sz SH)], [some (.ref 108)], [], z21) from rfl) ⟨(show (¬ (nI 42) < 0 ∧ ((nI 42)).toNatClampNeg ≤ 10000) from by decide +kernel), (show (z19.1.length + 1 ≤ 1000 ∧ z19.1.length + 1 ≤ SH.length ∧ a_sz z19.1 + ((nI 42)).toNatClampNeg ≤ a_sz SH) from by decide +kernel)⟩ ?_
  refine a_Rn.blk (M := mX11_init) okX11_init (show a_ch cX11_init 98 [.aload_n 0, .bipush 10, .newarray .int, .putfield 50] 106 = true by decide +kernel) (show a_xs fk11 11 true (SH.length, a_sz SH) [.aload_n 0, .bipush 10, .newarray .int, .putfield 50] [some (.ref 108)] [] z21 = some ([(¬ (nI 10) < 0 ∧ ((nI 10)).toNatClampNeg ≤ 10000), (z21.1.length + 1 ≤ 1000 ∧ z21.1.length + 1 ≤ SH.length ∧ a_sz z21.1 + ((nI 10)).toNatClampNeg ≤ a_sz SH)], [some (.ref 108)], [], z23) from rfl) ⟨(show (¬ (nI 10) < 0 ∧ ((nI 10)).toNatClampNeg ≤ 10000) from by decide +kernel), (show (z21.1.length + 1 ≤ 1000 ∧ z21.1.length + 1 ≤ SH.length ∧ a_sz z21.1 + ((nI 10)).toNatClampNeg ≤ a_sz SH) from by decide +kernel)⟩ ?_
  refine a_Rn.blk (M := mX11_init) okX11_init (show a_ch cX11_init 106 [.aload_n 0, .sipush 169, .newarray .boolean, .putfield 53] 115 = true by decide +kernel) (show a_xs fk11 11 true (SH.length, a_sz SH) [.aload_n 0, .sipush 169, .newarray .boolean, .putfield 53] [some (.ref 108)] [] z23 = some ([(¬ (nI 169) < 0 ∧ ((nI 169)).toNatClampNeg ≤ 10000), (z23.1.length + 1 ≤ 1000 ∧ z23.1.length + 1 ≤ SH.length ∧ a_sz z23.1 + ((nI 169)).toNatClampNeg ≤ a_sz SH)], [some (.ref 108)], [], z25) from rfl) ⟨(show (¬ (nI 169) < 0 ∧ ((nI 169)).toNatClampNeg ≤ 10000) from by decide +kernel), (show (z23.1.length + 1 ≤ 1000 ∧ z23.1.length + 1 ≤ SH.length ∧ a_sz z23.1 + ((nI 169)).toNatClampNeg ≤ a_sz SH) from by decide +kernel)⟩ ?_
  refine a_Rn.blk (M := mX11_init) okX11_init (show a_ch cX11_init 115 [.aload_n 0, .getfield 7] 119 = true by decide +kernel) (show a_xs fk11 11 true (SH.length, a_sz SH) [.aload_n 0, .getfield 7] [some (.ref 108)] [] z25 = some ([], [some (.ref 108)], [(a_rf (z25.2.1 108 0))], z25) from rfl) trivial ?_
  rw [show (a_rf (z25.2.1 108 0)) = .ref 109 from by rw [show z25.2.1 108 0 = some 109 from by decide +kernel]; rfl]
  refine a_Rn.blk (M := mX11_init) okX11_init (show a_ch cX11_init 119 [.bipush 10, .sipush 397, .iastore, .aload_n 0, .getfield 7] 129 = true by decide +kernel) (show a_xs fk11 11 true (SH.length, a_sz SH) [.bipush 10, .sipush 397, .iastore, .aload_n 0, .getfield 7] [some (.ref 108)] [.ref 109] z25 = some ([vp_in (nI 10) 1961], [some (.ref 108)], [(a_rf (z26.2.1 108 0))], z26) from rfl) (show vp_in (nI 10) 1961 from by unfold vp_in; decide +kernel) ?_
  rw [show (a_rf (z26.2.1 108 0)) = .ref 109 from by rw [show z26.2.1 108 0 = some 109 from by decide +kernel]; rfl]
  refine a_Rn.blk (M := mX11_init) okX11_init (show a_ch cX11_init 129 [.iconst 3, .iconst (-1), .iastore, .aload_n 0, .getfield 7] 136 = true by decide +kernel) (show a_xs fk11 11 true (SH.length, a_sz SH) [.iconst 3, .iconst (-1), .iastore, .aload_n 0, .getfield 7] [some (.ref 108)] [.ref 109] z26 = some ([vp_in (nI 3) 1961], [some (.ref 108)], [(a_rf (z27.2.1 108 0))], z27) from rfl) (show vp_in (nI 3) 1961 from by unfold vp_in; decide +kernel) ?_
  rw [show (a_rf (z27.2.1 108 0)) = .ref 109 from by rw [show z27.2.1 108 0 = some 109 from by decide +kernel]; rfl]
  refine a_Rn.blk (M := mX11_init) okX11_init (show a_ch cX11_init 136 [.aload_n 0, .getfield 13] 140 = true by decide +kernel) (show a_xs fk11 11 true (SH.length, a_sz SH) [.aload_n 0, .getfield 13] [some (.ref 108)] [.ref 109] z27 = some ([], [some (.ref 108)], [(a_rf (z27.2.1 108 1)), .ref 109], z27) from rfl) trivial ?_
  rw [show (a_rf (z27.2.1 108 1)) = .ref 110 from by rw [show z27.2.1 108 1 = some 110 from by decide +kernel]; rfl]
  rw [w_end]
  refine a_Rn.callS (M := mX11_init) (M' := mX11_copy) (As := [.ref 109, .ref 110]) (rest := []) (evX11_copyn (Γ := (G, l)) hc) (show decode cX11_init 140 = .ok (.invokestatic 56, 3) by decide +kernel) (show Cond.methodLink RX11 56 yX11_copy ∈ a_tb from a_tb6_at 31 rfl rfl) mwX11_copy rfl (by decide) (Nat.le_of_ble_eq_true rfl) ⟨Nat.le_refl _, Nat.le_refl _, Nat.le_refl _, Nat.le_refl _⟩ rfl ?_
  show a_Rn _ _ _ mX11_init _ _ 143 [some (.ref 108)] [] (hp dF eF) none (hp dF eF)
  exact a_Rn.vret (M := mX11_init) rfl (show decode cX11_init 143 = .ok (.return_, 1) by decide +kernel)
