/-! ===== the law's loop ===== -/
section LAW3
variable {G : aG} {p : Program} {l : Launch} {en : Env} {s : State} {m : MethodId} {below : List Frame} {meth : Method} {c : Code} {b N : Nat} {xs : Nat → Int32}
theorem d_tsw : decode code 33 = .ok (.tableswitch 1708 0 54 #[235, 268, 301, 364, 387, 400, 423, 446, 479, 502, 551, 574, 597, 630, 643, 676, 709, 742, 765, 788, 821, 864, 897, 920, 943, 966, 980, 1003, 1036, 1049, 1072, 1105, 1138, 1151, 1201, 1214, 1247, 1270, 1284, 1307, 1367, 1400, 1433, 1476, 1489, 1512, 1535, 1548, 1597, 1610, 1623, 1636, 1659, 1672, 1685], 235) := by decide +kernel
theorem lw_case {v : Int32} {h : aH} {tgt : Nat} {L : aL} (k : Nat) (off : Int) (C : LCx G p s m b N xs meth c) (hv : v.toInt = (k : Int)) (hk : k ≤ 54) (ho : (#[235, 268, 301, 364, 387, 400, 423, 446, 479, 502, 551, 574, 597, 630, 643, 676, 709, 742, 765, 788, 821, 864, 897, 920, 943, 966, 980, 1003, 1036, 1049, 1072, 1105, 1138, 1151, 1201, 1214, 1247, 1270, 1284, 1307, 1367, 1400, 1433, 1476, 1489, 1512, 1535, 1548, 1597, 1610, 1623, 1636, 1659, 1672, 1685] : Array Int)[k]? = some off) (ht : ((33 : Nat) : Int) + off = (tgt : Int)) (kk : LW G p l en s m below meth c b tgt L [] h) : LW G p l en s m below meth c b 33 L [.int v] h :=
  LW.tsw C d_tsw (Or.inr ⟨by omega, by omega, off, by rw [hv, Int.sub_zero, Int.toNat_natCast]; exact ho, ht⟩) kk
theorem lw_loop (C : LCx G p s m b N xs meth c) (hN : N ≤ 3072) : ∀ (r i : Nat) (S : aS) (d : aI) (e : aJ), N + 1 ≤ i + r → i ≤ N → sOK S → CI d S → MI d S → LW G p l en s m below meth c b 18 (l_L (nI i)) [] (hp d e)
  | 0, i, S, d, e, h1, h2, _, _, _ => by omega
  | r + 1, i, S, d, e, h1, h2, hS, hC, hM => by
    refine LW.blk C (show a_ch code 18 [.iload_n 3, .aload_n 0, .arraylength, .bipush 6, .isub] 24 = true by decide +kernel) (show l_xs N xs [.iload_n 3, .aload_n 0, .arraylength, .bipush 6, .isub] (l_L (nI i)) [] = some ([], [.int (nI N - nI 6), .int (nI i)]) from rfl) trivial ?_
    refine LW.igt C (show decode code 24 = .ok (.if_icmp .gt 1723, 3) by decide +kernel) (show ((24 : Nat) : Int) + 1723 = ((1747 : Nat) : Int) by decide) (fun _ => ?_) (fun hlt => ?_)
    · refine LW.blk C (show a_ch code 1747 [.iconst 1] 1748 = true by decide +kernel) (show l_xs N xs [.iconst 1] (l_L (nI i)) [] = some ([], [.int 1]) from rfl) trivial ?_
      exact LW.fin C (show a_sz SH ≤ 7302250 by decide +kernel) (show decode code 1748 = .ok (.ireturn, 1) by decide +kernel)
    · have e1 : nI N - nI 6 = iI ((N : Int) - 6) := by
        rw [nI_iI N, nI_iI 6]
        exact iI_sub _ _
      rw [e1, nI_iI i, iI_lt (by omega)] at hlt
      have i6 : i + 6 ≤ N := by omega
      have vi : vp_in (nI i) N := vp_in_nI (by omega) (by omega)
      have hv : vp_in (nI i + nI 1) N ∧ vp_in (nI i + nI 2) N ∧ vp_in (nI i + nI 3) N ∧ vp_in (nI i + nI 4) N ∧ vp_in (nI i + nI 5) N := by
        rw [nI_add, nI_add, nI_add, nI_add, nI_add]
        exact ⟨vp_in_nI (by omega) (by omega), vp_in_nI (by omega) (by omega), vp_in_nI (by omega) (by omega), vp_in_nI (by omega) (by omega), vp_in_nI (by omega) (by omega)⟩
      have cont : ∀ S d e, sOK S → CI d S → MI d S → LW G p l en s m below meth c b 1741 (l_L (nI i)) [] (hp d e) := by
        intro S2 d2 e2 g1 g2 g3
        have ih := lw_loop C hN r (i + 6) S2 d2 e2 (by omega) (by omega) g1 g2 g3
        rw [← nI_add] at ih
        exact LW.iinc C (show decode code 1741 = .ok (.iinc 3 6, 3) by decide +kernel) (LW.goto C (show decode code 1744 = .ok (.goto (-1726), 3) by decide +kernel) (show ((1744 : Nat) : Int) + (-1726) = ((18 : Nat) : Int) by decide) ih)
      refine LW.blk C (show a_ch code 27 [.aload_n 0, .iload_n 3, .iaload, .bipush 63, .iand] 33 = true by decide +kernel) (show l_xs N xs [.aload_n 0, .iload_n 3, .iaload, .bipush 63, .iand] (l_L (nI i)) [] = some ([vp_in (nI i) N], [.int (xs (nI i).toNatClampNeg &&& nI 63)]) from rfl) vi ?_
      generalize xs (nI i).toNatClampNeg &&& nI 63 = v
      by_cases h0 : v.toInt = ((0 : Nat) : Int)
      · exact lw_case 0 235 C h0 (by decide) rfl (by decide) (br_house C hv cont S d e hS hC hM)
      by_cases h1 : v.toInt = ((1 : Nat) : Int)
      · exact lw_case 1 268 C h1 (by decide) rfl (by decide) (br_cat C hv cont S d e hS hC hM)
      by_cases h2 : v.toInt = ((2 : Nat) : Int)
      · exact lw_case 2 301 C h2 (by decide) rfl (by decide) (br_feed C hv cont S d e hS hC hM)
      by_cases h3 : v.toInt = ((3 : Nat) : Int)
      · exact lw_case 3 364 C h3 (by decide) rfl (by decide) (br_end C hv cont S d e hS hC hM)
      by_cases h4 : v.toInt = ((4 : Nat) : Int)
      · exact lw_case 4 387 C h4 (by decide) rfl (by decide) (br_text C hv cont S d e hS hC hM)
      by_cases h5 : v.toInt = ((5 : Nat) : Int)
      · exact lw_case 5 400 C h5 (by decide) rfl (by decide) (br_fault C hv cont S d e hS hC hM)
      by_cases h6 : v.toInt = ((6 : Nat) : Int)
      · exact lw_case 6 423 C h6 (by decide) rfl (by decide) (br_by C hv cont S d e hS hC hM)
      by_cases h7 : v.toInt = ((7 : Nat) : Int)
      · exact lw_case 7 446 C h7 (by decide) rfl (by decide) (br_let C hv cont S d e hS hC hM)
      by_cases h8 : v.toInt = ((8 : Nat) : Int)
      · exact lw_case 8 479 C h8 (by decide) rfl (by decide) (br_out C hv cont S d e hS hC hM)
      by_cases h9 : v.toInt = ((9 : Nat) : Int)
      · exact lw_case 9 502 C h9 (by decide) rfl (by decide) (br_go C hv cont S d e hS hC hM)
      by_cases h10 : v.toInt = ((10 : Nat) : Int)
      · exact lw_case 10 551 C h10 (by decide) rfl (by decide) (br_hour C hv cont S d e hS hC hM)
      by_cases h11 : v.toInt = ((11 : Nat) : Int)
      · exact lw_case 11 574 C h11 (by decide) rfl (by decide) (br_played C hv cont S d e hS hC hM)
      by_cases h12 : v.toInt = ((12 : Nat) : Int)
      · exact lw_case 12 597 C h12 (by decide) rfl (by decide) (br_years C hv cont S d e hS hC hM)
      by_cases h13 : v.toInt = ((13 : Nat) : Int)
      · exact lw_case 13 630 C h13 (by decide) rfl (by decide) (br_undo C hv cont S d e hS hC hM)
      by_cases h14 : v.toInt = ((14 : Nat) : Int)
      · exact lw_case 14 643 C h14 (by decide) rfl (by decide) (br_of C hv cont S d e hS hC hM)
      by_cases h15 : v.toInt = ((15 : Nat) : Int)
      · exact lw_case 15 676 C h15 (by decide) rfl (by decide) (br_ofHouse C hv cont S d e hS hC hM)
      by_cases h16 : v.toInt = ((16 : Nat) : Int)
      · exact lw_case 16 709 C h16 (by decide) rfl (by decide) (br_takes C hv cont S d e hS hC hM)
      by_cases h17 : v.toInt = ((17 : Nat) : Int)
      · exact lw_case 17 742 C h17 (by decide) rfl (by decide) (br_goes C hv cont S d e hS hC hM)
      by_cases h18 : v.toInt = ((18 : Nat) : Int)
      · exact lw_case 18 765 C h18 (by decide) rfl (by decide) (br_is C hv cont S d e hS hC hM)
      by_cases h19 : v.toInt = ((19 : Nat) : Int)
      · exact lw_case 19 788 C h19 (by decide) rfl (by decide) (br_book C hv cont S d e hS hC hM)
      by_cases h20 : v.toInt = ((20 : Nat) : Int)
      · exact lw_case 20 821 C h20 (by decide) rfl (by decide) (br_foretold C hv cont S d e hS hC hM)
      by_cases h21 : v.toInt = ((21 : Nat) : Int)
      · exact lw_case 21 864 C h21 (by decide) rfl (by decide) (br_far C hv cont S d e hS hC hM)
      by_cases h22 : v.toInt = ((22 : Nat) : Int)
      · exact lw_case 22 897 C h22 (by decide) rfl (by decide) (br_match C hv cont S d e hS hC hM)
      by_cases h23 : v.toInt = ((23 : Nat) : Int)
      · exact lw_case 23 920 C h23 (by decide) rfl (by decide) (br_matched C hv cont S d e hS hC hM)
      by_cases h24 : v.toInt = ((24 : Nat) : Int)
      · exact lw_case 24 943 C h24 (by decide) rfl (by decide) (br_latest C hv cont S d e hS hC hM)
      by_cases h25 : v.toInt = ((25 : Nat) : Int)
      · exact lw_case 25 966 C h25 (by decide) rfl (by decide) (br_orders C hv cont S d e hS hC hM)
      by_cases h26 : v.toInt = ((26 : Nat) : Int)
      · exact lw_case 26 980 C h26 (by decide) rfl (by decide) (br_order C hv cont S d e hS hC hM)
      by_cases h27 : v.toInt = ((27 : Nat) : Int)
      · exact lw_case 27 1003 C h27 (by decide) rfl (by decide) (br_seen C hv cont S d e hS hC hM)
      by_cases h28 : v.toInt = ((28 : Nat) : Int)
      · exact lw_case 28 1036 C h28 (by decide) rfl (by decide) (br_fewest C hv cont S d e hS hC hM)
      by_cases h29 : v.toInt = ((29 : Nat) : Int)
      · exact lw_case 29 1049 C h29 (by decide) rfl (by decide) (br_track C hv cont S d e hS hC hM)
      by_cases h30 : v.toInt = ((30 : Nat) : Int)
      · exact lw_case 30 1072 C h30 (by decide) rfl (by decide) (br_same C hv cont S d e hS hC hM)
      by_cases h31 : v.toInt = ((31 : Nat) : Int)
      · exact lw_case 31 1105 C h31 (by decide) rfl (by decide) (br_told C hv cont S d e hS hC hM)
      by_cases h32 : v.toInt = ((32 : Nat) : Int)
      · exact lw_case 32 1138 C h32 (by decide) rfl (by decide) (br_which C hv cont S d e hS hC hM)
      by_cases h33 : v.toInt = ((33 : Nat) : Int)
      · exact lw_case 33 1151 C h33 (by decide) rfl (by decide) (br_likely C hv cont S d e hS hC hM)
      by_cases h34 : v.toInt = ((34 : Nat) : Int)
      · exact lw_case 34 1201 C h34 (by decide) rfl (by decide) (br_askNext C hv cont S d e hS hC hM)
      by_cases h35 : v.toInt = ((35 : Nat) : Int)
      · exact lw_case 35 1214 C h35 (by decide) rfl (by decide) (br_piece C hv cont S d e hS hC hM)
      by_cases h36 : v.toInt = ((36 : Nat) : Int)
      · exact lw_case 36 1247 C h36 (by decide) rfl (by decide) (br_joins C hv cont S d e hS hC hM)
      by_cases h37 : v.toInt = ((37 : Nat) : Int)
      · exact lw_case 37 1270 C h37 (by decide) rfl (by decide) (br_dream C hv cont S d e hS hC hM)
      by_cases h38 : v.toInt = ((38 : Nat) : Int)
      · exact lw_case 38 1284 C h38 (by decide) rfl (by decide) (br_price C hv cont S d e hS hC hM)
      by_cases h39 : v.toInt = ((39 : Nat) : Int)
      · exact lw_case 39 1307 C h39 (by decide) rfl (by decide) (br_chances C hv cont S d e hS hC hM)
      by_cases h40 : v.toInt = ((40 : Nat) : Int)
      · exact lw_case 40 1367 C h40 (by decide) rfl (by decide) (br_game C hv cont S d e hS hC hM)
      by_cases h41 : v.toInt = ((41 : Nat) : Int)
      · exact lw_case 41 1400 C h41 (by decide) rfl (by decide) (br_play C hv cont S d e hS hC hM)
      by_cases h42 : v.toInt = ((42 : Nat) : Int)
      · exact lw_case 42 1433 C h42 (by decide) rfl (by decide) (br_said C hv cont S d e hS hC hM)
      by_cases h43 : v.toInt = ((43 : Nat) : Int)
      · exact lw_case 43 1476 C h43 (by decide) rfl (by decide) (br_whose C hv cont S d e hS hC hM)
      by_cases h44 : v.toInt = ((44 : Nat) : Int)
      · exact lw_case 44 1489 C h44 (by decide) rfl (by decide) (br_nearest C hv cont S d e hS hC hM)
      by_cases h45 : v.toInt = ((45 : Nat) : Int)
      · exact lw_case 45 1512 C h45 (by decide) rfl (by decide) (br_at C hv cont S d e hS hC hM)
      by_cases h46 : v.toInt = ((46 : Nat) : Int)
      · exact lw_case 46 1535 C h46 (by decide) rfl (by decide) (br_gap C hv cont S d e hS hC hM)
      by_cases h47 : v.toInt = ((47 : Nat) : Int)
      · exact lw_case 47 1548 C h47 (by decide) rfl (by decide) (br_share C hv cont S d e hS hC hM)
      by_cases h48 : v.toInt = ((48 : Nat) : Int)
      · exact lw_case 48 1597 C h48 (by decide) rfl (by decide) (br_coldest C hv cont S d e hS hC hM)
      by_cases h49 : v.toInt = ((49 : Nat) : Int)
      · exact lw_case 49 1610 C h49 (by decide) rfl (by decide) (br_dreamless C hv cont S d e hS hC hM)
      by_cases h50 : v.toInt = ((50 : Nat) : Int)
      · exact lw_case 50 1623 C h50 (by decide) rfl (by decide) (br_free C hv cont S d e hS hC hM)
      by_cases h51 : v.toInt = ((51 : Nat) : Int)
      · exact lw_case 51 1636 C h51 (by decide) rfl (by decide) (br_ledger C hv cont S d e hS hC hM)
      by_cases h52 : v.toInt = ((52 : Nat) : Int)
      · exact lw_case 52 1659 C h52 (by decide) rfl (by decide) (br_image C hv cont S d e hS hC hM)
      by_cases h53 : v.toInt = ((53 : Nat) : Int)
      · exact lw_case 53 1672 C h53 (by decide) rfl (by decide) (br_back C hv cont S d e hS hC hM)
      by_cases h54 : v.toInt = ((54 : Nat) : Int)
      · exact lw_case 54 1685 C h54 (by decide) rfl (by decide) (br_about C hv cont S d e hS hC hM)
      refine LW.tsw C d_tsw (tgt := 1741) (Or.inl ⟨?_, by decide⟩) (cont S d e hS hC hM)
      refine Classical.byContradiction (fun z => ?_)
      have z1 : 0 ≤ v.toInt ∧ v.toInt ≤ 54 := by omega
      obtain ⟨q, hq⟩ := Int.eq_ofNat_of_zero_le z1.1
      rw [hq] at z1
      have z2 : q ≤ 54 := by omega
      clear z
      rw [hq] at h0 h1 h2 h3 h4 h5 h6 h7 h8 h9 h10 h11 h12 h13 h14 h15 h16 h17 h18 h19 h20 h21 h22 h23 h24 h25 h26 h27 h28 h29 h30 h31 h32 h33 h34 h35 h36 h37 h38 h39 h40 h41 h42 h43 h44 h45 h46 h47 h48 h49 h50 h51 h52 h53 h54
      omega
end LAW3
