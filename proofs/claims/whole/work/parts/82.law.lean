/-! the law: words, cell, the pairs of calls -/
theorem lm_54 : Cond.methodLink RL 54 yX11_init ∈ gwT := gw_mem 98 (by decide +kernel) (by decide +kernel)
theorem li_X11_init : Cond.instanceMethod yX11_init ∈ gwT := gw_mem 99 (by decide +kernel) (by decide +kernel)
theorem lm_96 : Cond.methodLink RL 96 yX11_fail ∈ gwT := gw_mem 532 (by decide +kernel) (by decide +kernel)
theorem li_X11_fail : Cond.instanceMethod yX11_fail ∈ gwT := gw_mem 533 (by decide +kernel) (by decide +kernel)
theorem le_X11_fail : Cond.selects yX11_fail.cls yX11_fail yX11_fail ∈ gwT := gw_mem 534 (by decide +kernel) (by decide +kernel)
theorem lm_101 : Cond.methodLink RL 101 yX11_install ∈ gwT := gw_mem 536 (by decide +kernel) (by decide +kernel)
theorem li_X11_install : Cond.instanceMethod yX11_install ∈ gwT := gw_mem 537 (by decide +kernel) (by decide +kernel)
theorem le_X11_install : Cond.selects yX11_install.cls yX11_install yX11_install ∈ gwT := gw_mem 538 (by decide +kernel) (by decide +kernel)
theorem lm_105 : Cond.methodLink RL 105 yX11_replica ∈ gwT := gw_mem 540 (by decide +kernel) (by decide +kernel)
theorem li_X11_replica : Cond.instanceMethod yX11_replica ∈ gwT := gw_mem 541 (by decide +kernel) (by decide +kernel)
theorem le_X11_replica : Cond.selects yX11_replica.cls yX11_replica yX11_replica ∈ gwT := gw_mem 542 (by decide +kernel) (by decide +kernel)
theorem lm_110 : Cond.methodLink RL 110 yX11_entry ∈ gwT := gw_mem 548 (by decide +kernel) (by decide +kernel)
theorem li_X11_entry : Cond.instanceMethod yX11_entry ∈ gwT := gw_mem 549 (by decide +kernel) (by decide +kernel)
theorem le_X11_entry : Cond.selects yX11_entry.cls yX11_entry yX11_entry ∈ gwT := gw_mem 550 (by decide +kernel) (by decide +kernel)
theorem lm_115 : Cond.methodLink RL 115 yX11_word ∈ gwT := gw_mem 560 (by decide +kernel) (by decide +kernel)
theorem li_X11_word : Cond.instanceMethod yX11_word ∈ gwT := gw_mem 561 (by decide +kernel) (by decide +kernel)
theorem le_X11_word : Cond.selects yX11_word.cls yX11_word yX11_word ∈ gwT := gw_mem 562 (by decide +kernel) (by decide +kernel)
theorem lm_119 : Cond.methodLink RL 119 yX11_client ∈ gwT := gw_mem 596 (by decide +kernel) (by decide +kernel)
theorem li_X11_client : Cond.instanceMethod yX11_client ∈ gwT := gw_mem 597 (by decide +kernel) (by decide +kernel)
theorem le_X11_client : Cond.selects yX11_client.cls yX11_client yX11_client ∈ gwT := gw_mem 598 (by decide +kernel) (by decide +kernel)
theorem lm_123 : Cond.methodLink RL 123 yX11_answer ∈ gwT := gw_mem 604 (by decide +kernel) (by decide +kernel)
theorem li_X11_answer : Cond.instanceMethod yX11_answer ∈ gwT := gw_mem 605 (by decide +kernel) (by decide +kernel)
theorem le_X11_answer : Cond.selects yX11_answer.cls yX11_answer yX11_answer ∈ gwT := gw_mem 606 (by decide +kernel) (by decide +kernel)
theorem lm_127 : Cond.methodLink RL 127 yX11_about ∈ gwT := gw_mem 608 (by decide +kernel) (by decide +kernel)
theorem li_X11_about : Cond.instanceMethod yX11_about ∈ gwT := gw_mem 609 (by decide +kernel) (by decide +kernel)
theorem le_X11_about : Cond.selects yX11_about.cls yX11_about yX11_about ∈ gwT := gw_mem 610 (by decide +kernel) (by decide +kernel)
theorem lm_131 : Cond.methodLink RL 131 yX11_message ∈ gwT := gw_mem 612 (by decide +kernel) (by decide +kernel)
theorem li_X11_message : Cond.instanceMethod yX11_message ∈ gwT := gw_mem 613 (by decide +kernel) (by decide +kernel)
theorem le_X11_message : Cond.selects yX11_message.cls yX11_message yX11_message ∈ gwT := gw_mem 614 (by decide +kernel) (by decide +kernel)
theorem lm_135 : Cond.methodLink RL 135 yX11_broken ∈ gwT := gw_mem 616 (by decide +kernel) (by decide +kernel)
theorem li_X11_broken : Cond.instanceMethod yX11_broken ∈ gwT := gw_mem 617 (by decide +kernel) (by decide +kernel)
theorem le_X11_broken : Cond.selects yX11_broken.cls yX11_broken yX11_broken ∈ gwT := gw_mem 618 (by decide +kernel) (by decide +kernel)
theorem lm_48 : Cond.methodLink RL 48 yL_cell ∈ gwT := gw_mem 652 (by decide +kernel) (by decide +kernel)
theorem lm_59 : Cond.methodLink RL 59 yL_request ∈ gwT := gw_mem 655 (by decide +kernel) (by decide +kernel)
theorem lm_67 : Cond.methodLink RL 67 yL_again ∈ gwT := gw_mem 781 (by decide +kernel) (by decide +kernel)
theorem lm_71 : Cond.methodLink RL 71 yL_deliver ∈ gwT := gw_mem 790 (by decide +kernel) (by decide +kernel)
theorem lm_74 : Cond.methodLink RL 74 yL_lose ∈ gwT := gw_mem 1023 (by decide +kernel) (by decide +kernel)
theorem lm_77 : Cond.methodLink RL 77 yL_flow ∈ gwT := gw_mem 1030 (by decide +kernel) (by decide +kernel)
theorem lm_81 : Cond.methodLink RL 81 yL_down ∈ gwT := gw_mem 1038 (by decide +kernel) (by decide +kernel)
theorem lm_84 : Cond.methodLink RL 84 yL_up ∈ gwT := gw_mem 1052 (by decide +kernel) (by decide +kernel)
theorem lm_87 : Cond.methodLink RL 87 yL_suspect ∈ gwT := gw_mem 1060 (by decide +kernel) (by decide +kernel)
theorem lm_90 : Cond.methodLink RL 90 yL_nudge ∈ gwT := gw_mem 1071 (by decide +kernel) (by decide +kernel)
theorem lm_93 : Cond.methodLink RL 93 yL_sync ∈ gwT := gw_mem 1082 (by decide +kernel) (by decide +kernel)
theorem lm_58 : Cond.methodLink RL 58 yX12_init ∈ gwT := gw_mem 1093 (by decide +kernel) (by decide +kernel)
theorem li_X12_init : Cond.instanceMethod yX12_init ∈ gwT := gw_mem 1094 (by decide +kernel) (by decide +kernel)
theorem lm_63 : Cond.methodLink RL 63 yX12_thrown ∈ gwT := gw_mem 1336 (by decide +kernel) (by decide +kernel)
theorem li_X12_thrown : Cond.instanceMethod yX12_thrown ∈ gwT := gw_mem 1337 (by decide +kernel) (by decide +kernel)
theorem le_X12_thrown : Cond.selects yX12_thrown.cls yX12_thrown yX12_thrown ∈ gwT := gw_mem 1338 (by decide +kernel) (by decide +kernel)
theorem lm_62 : Cond.methodLink RL 62 yX12_request ∈ gwT := gw_mem 1340 (by decide +kernel) (by decide +kernel)
theorem li_X12_request : Cond.instanceMethod yX12_request ∈ gwT := gw_mem 1341 (by decide +kernel) (by decide +kernel)
theorem le_X12_request : Cond.selects yX12_request.cls yX12_request yX12_request ∈ gwT := gw_mem 1342 (by decide +kernel) (by decide +kernel)
theorem lm_70 : Cond.methodLink RL 70 yX12_again ∈ gwT := gw_mem 1355 (by decide +kernel) (by decide +kernel)
theorem li_X12_again : Cond.instanceMethod yX12_again ∈ gwT := gw_mem 1356 (by decide +kernel) (by decide +kernel)
theorem le_X12_again : Cond.selects yX12_again.cls yX12_again yX12_again ∈ gwT := gw_mem 1357 (by decide +kernel) (by decide +kernel)
theorem lm_73 : Cond.methodLink RL 73 yX12_deliver ∈ gwT := gw_mem 1359 (by decide +kernel) (by decide +kernel)
theorem li_X12_deliver : Cond.instanceMethod yX12_deliver ∈ gwT := gw_mem 1360 (by decide +kernel) (by decide +kernel)
theorem le_X12_deliver : Cond.selects yX12_deliver.cls yX12_deliver yX12_deliver ∈ gwT := gw_mem 1361 (by decide +kernel) (by decide +kernel)
theorem lm_76 : Cond.methodLink RL 76 yX12_lose ∈ gwT := gw_mem 1513 (by decide +kernel) (by decide +kernel)
theorem li_X12_lose : Cond.instanceMethod yX12_lose ∈ gwT := gw_mem 1514 (by decide +kernel) (by decide +kernel)
theorem le_X12_lose : Cond.selects yX12_lose.cls yX12_lose yX12_lose ∈ gwT := gw_mem 1515 (by decide +kernel) (by decide +kernel)
theorem lm_80 : Cond.methodLink RL 80 yX12_flow ∈ gwT := gw_mem 1517 (by decide +kernel) (by decide +kernel)
theorem li_X12_flow : Cond.instanceMethod yX12_flow ∈ gwT := gw_mem 1518 (by decide +kernel) (by decide +kernel)
theorem le_X12_flow : Cond.selects yX12_flow.cls yX12_flow yX12_flow ∈ gwT := gw_mem 1519 (by decide +kernel) (by decide +kernel)
theorem lm_83 : Cond.methodLink RL 83 yX12_down ∈ gwT := gw_mem 1521 (by decide +kernel) (by decide +kernel)
theorem li_X12_down : Cond.instanceMethod yX12_down ∈ gwT := gw_mem 1522 (by decide +kernel) (by decide +kernel)
theorem le_X12_down : Cond.selects yX12_down.cls yX12_down yX12_down ∈ gwT := gw_mem 1523 (by decide +kernel) (by decide +kernel)
theorem lm_86 : Cond.methodLink RL 86 yX12_up ∈ gwT := gw_mem 1525 (by decide +kernel) (by decide +kernel)
theorem li_X12_up : Cond.instanceMethod yX12_up ∈ gwT := gw_mem 1526 (by decide +kernel) (by decide +kernel)
theorem le_X12_up : Cond.selects yX12_up.cls yX12_up yX12_up ∈ gwT := gw_mem 1527 (by decide +kernel) (by decide +kernel)
theorem lm_89 : Cond.methodLink RL 89 yX12_suspect ∈ gwT := gw_mem 1529 (by decide +kernel) (by decide +kernel)
theorem li_X12_suspect : Cond.instanceMethod yX12_suspect ∈ gwT := gw_mem 1530 (by decide +kernel) (by decide +kernel)
theorem le_X12_suspect : Cond.selects yX12_suspect.cls yX12_suspect yX12_suspect ∈ gwT := gw_mem 1531 (by decide +kernel) (by decide +kernel)
theorem lm_92 : Cond.methodLink RL 92 yX12_nudge ∈ gwT := gw_mem 1537 (by decide +kernel) (by decide +kernel)
theorem li_X12_nudge : Cond.instanceMethod yX12_nudge ∈ gwT := gw_mem 1538 (by decide +kernel) (by decide +kernel)
theorem le_X12_nudge : Cond.selects yX12_nudge.cls yX12_nudge yX12_nudge ∈ gwT := gw_mem 1539 (by decide +kernel) (by decide +kernel)
theorem lm_95 : Cond.methodLink RL 95 yX12_sync_ ∈ gwT := gw_mem 1541 (by decide +kernel) (by decide +kernel)
theorem li_X12_sync_ : Cond.instanceMethod yX12_sync_ ∈ gwT := gw_mem 1542 (by decide +kernel) (by decide +kernel)
theorem le_X12_sync_ : Cond.selects yX12_sync_.cls yX12_sync_ yX12_sync_ ∈ gwT := gw_mem 1543 (by decide +kernel) (by decide +kernel)
theorem lm_100 : Cond.methodLink RL 100 yX12_fail ∈ gwT := gw_mem 1545 (by decide +kernel) (by decide +kernel)
theorem li_X12_fail : Cond.instanceMethod yX12_fail ∈ gwT := gw_mem 1546 (by decide +kernel) (by decide +kernel)
theorem le_X12_fail : Cond.selects yX12_fail.cls yX12_fail yX12_fail ∈ gwT := gw_mem 1547 (by decide +kernel) (by decide +kernel)
theorem lm_104 : Cond.methodLink RL 104 yX12_install ∈ gwT := gw_mem 1549 (by decide +kernel) (by decide +kernel)
theorem li_X12_install : Cond.instanceMethod yX12_install ∈ gwT := gw_mem 1550 (by decide +kernel) (by decide +kernel)
theorem le_X12_install : Cond.selects yX12_install.cls yX12_install yX12_install ∈ gwT := gw_mem 1551 (by decide +kernel) (by decide +kernel)
theorem lm_109 : Cond.methodLink RL 109 yX12_replica ∈ gwT := gw_mem 1553 (by decide +kernel) (by decide +kernel)
theorem li_X12_replica : Cond.instanceMethod yX12_replica ∈ gwT := gw_mem 1554 (by decide +kernel) (by decide +kernel)
theorem le_X12_replica : Cond.selects yX12_replica.cls yX12_replica yX12_replica ∈ gwT := gw_mem 1555 (by decide +kernel) (by decide +kernel)
theorem lm_114 : Cond.methodLink RL 114 yX12_entry ∈ gwT := gw_mem 1557 (by decide +kernel) (by decide +kernel)
theorem li_X12_entry : Cond.instanceMethod yX12_entry ∈ gwT := gw_mem 1558 (by decide +kernel) (by decide +kernel)
theorem le_X12_entry : Cond.selects yX12_entry.cls yX12_entry yX12_entry ∈ gwT := gw_mem 1559 (by decide +kernel) (by decide +kernel)
theorem lm_118 : Cond.methodLink RL 118 yX12_word ∈ gwT := gw_mem 1561 (by decide +kernel) (by decide +kernel)
theorem li_X12_word : Cond.instanceMethod yX12_word ∈ gwT := gw_mem 1562 (by decide +kernel) (by decide +kernel)
theorem le_X12_word : Cond.selects yX12_word.cls yX12_word yX12_word ∈ gwT := gw_mem 1563 (by decide +kernel) (by decide +kernel)
theorem lm_122 : Cond.methodLink RL 122 yX12_client ∈ gwT := gw_mem 1569 (by decide +kernel) (by decide +kernel)
theorem li_X12_client : Cond.instanceMethod yX12_client ∈ gwT := gw_mem 1570 (by decide +kernel) (by decide +kernel)
theorem le_X12_client : Cond.selects yX12_client.cls yX12_client yX12_client ∈ gwT := gw_mem 1571 (by decide +kernel) (by decide +kernel)
theorem lm_126 : Cond.methodLink RL 126 yX12_answer_ ∈ gwT := gw_mem 1573 (by decide +kernel) (by decide +kernel)
theorem li_X12_answer_ : Cond.instanceMethod yX12_answer_ ∈ gwT := gw_mem 1574 (by decide +kernel) (by decide +kernel)
theorem le_X12_answer_ : Cond.selects yX12_answer_.cls yX12_answer_ yX12_answer_ ∈ gwT := gw_mem 1575 (by decide +kernel) (by decide +kernel)
theorem lm_130 : Cond.methodLink RL 130 yX12_about ∈ gwT := gw_mem 1577 (by decide +kernel) (by decide +kernel)
theorem li_X12_about : Cond.instanceMethod yX12_about ∈ gwT := gw_mem 1578 (by decide +kernel) (by decide +kernel)
theorem le_X12_about : Cond.selects yX12_about.cls yX12_about yX12_about ∈ gwT := gw_mem 1579 (by decide +kernel) (by decide +kernel)
theorem lm_134 : Cond.methodLink RL 134 yX12_message ∈ gwT := gw_mem 1581 (by decide +kernel) (by decide +kernel)
theorem li_X12_message : Cond.instanceMethod yX12_message ∈ gwT := gw_mem 1582 (by decide +kernel) (by decide +kernel)
theorem le_X12_message : Cond.selects yX12_message.cls yX12_message yX12_message ∈ gwT := gw_mem 1583 (by decide +kernel) (by decide +kernel)
theorem lm_138 : Cond.methodLink RL 138 yX12_broken ∈ gwT := gw_mem 1585 (by decide +kernel) (by decide +kernel)
theorem li_X12_broken : Cond.instanceMethod yX12_broken ∈ gwT := gw_mem 1586 (by decide +kernel) (by decide +kernel)
theorem le_X12_broken : Cond.selects yX12_broken.cls yX12_broken yX12_broken ∈ gwT := gw_mem 1587 (by decide +kernel) (by decide +kernel)
theorem ls_cell : Cond.static yL_cell ∈ gwT := gw_mem 653 (by decide +kernel) (by decide +kernel)
theorem mk_L_cell : MOK yL_cell cL_cell 2 (some .int) 2 := ⟨(gw_memc (tm_3 102 rfl) rfl), qz_law, by decide +kernel, by decide +kernel, by decide +kernel⟩
theorem lc_8 : Cond.classLink RL 8 (cC 11) ∈ gwT := gw_mem 96 (by decide +kernel) (by decide +kernel)
theorem ln_11 : Cond.instantiable (cC 11) (cN 11) ∈ gwT := gw_mem 97 (by decide +kernel) (by decide +kernel)
theorem lz_11 : Cond.initialized (cC 11) ∈ gwT := gw_mem 73 (by decide +kernel) (by decide +kernel)
theorem lc_56 : Cond.classLink RL 56 (cC 12) ∈ gwT := gw_mem 1091 (by decide +kernel) (by decide +kernel)
theorem ln_12 : Cond.instantiable (cC 12) (cN 12) ∈ gwT := gw_mem 1092 (by decide +kernel) (by decide +kernel)
theorem lz_12 : Cond.initialized (cC 12) ∈ gwT := gw_mem 86 (by decide +kernel) (by decide +kernel)
theorem la_long : Cond.arrayClass .long ∈ gwT := gw_mem 1593 (by decide +kernel) (by decide +kernel)
section LPAIR
variable {n t tb : Nat} {σ : Hp} {μ : Mu}
theorem Inv.gO (h : Inv n t tb σ μ) : h_gO σ 11 tb = some () := by
  obtain ⟨h0, A, q, vw, p, u, a, h1, h2, h3⟩ := h
  rw [← h1]
  exact e_gO h3.1.k11
theorem pl_request (hI : Inv n t tb σ μ) (ht : t < 64) (o : Int64) (x0 x1 x2 x3 : Int32) : ∃ r b σ' μ' o', f_L_request σ o tb x0 x1 x2 x3 = some (r, σ', o') ∧ f_X12_request μ x0 x1 x2 x3 = some (b, μ') ∧ Inv n (t + 1) tb σ' μ' ∧ μ'.1 0 = r ∧ (r = 0 → o' = b.toInt64) := by
  obtain ⟨cd, v, σ', b, μ', e1, e2, h, hc⟩ := pb_request hI ht x0 x1 x2 x3
  rcases hc with ⟨rfl, h0, hv⟩ | ⟨rfl, h0⟩ | ⟨rfl, h0⟩ | ⟨rfl, h0⟩
  · exact ⟨0, b, σ', μ', v.toInt64, by
      rw [f_L_request, hI.gO, Option.bind_some, e1, Option.bind_some]
      exact if_pos rfl, e2, h, h0, fun _ => by rw [hv]⟩
  · exact ⟨1, b, σ', μ', o, by
      rw [f_L_request, hI.gO, Option.bind_some, e1, Option.bind_some]
      dsimp only
      rw [if_neg (show ¬ (1 : Nat) = 0 by decide), if_pos rfl], e2, h, h0, fun h => absurd h (by decide)⟩
  · exact ⟨2, b, σ', μ', o, by
      rw [f_L_request, hI.gO, Option.bind_some, e1, Option.bind_some]
      dsimp only
      rw [if_neg (show ¬ (2 : Nat) = 0 by decide), if_neg (show ¬ (2 : Nat) = 1 by decide), if_pos rfl], e2, h, h0, fun h => absurd h (by decide)⟩
  · exact ⟨3, b, σ', μ', o, by
      rw [f_L_request, hI.gO, Option.bind_some, e1, Option.bind_some]
      dsimp only
      rw [if_neg (show ¬ (3 : Nat) = 0 by decide), if_neg (show ¬ (3 : Nat) = 1 by decide), if_neg (show ¬ (3 : Nat) = 2 by decide), if_pos rfl], e2, h, h0, fun h => absurd h (by decide)⟩
theorem pl_again (hI : Inv n t tb σ μ) (o : Int64) (x0 : Int32) : ∃ r σ' μ', f_L_again σ o tb x0 = some (r, σ', o) ∧ f_X12_again μ x0 = some μ' ∧ Inv n t tb σ' μ' ∧ μ'.1 0 = r := by
  obtain ⟨cd, v, σ', μ', e1, e2, h, hc⟩ := pb_again hI x0
  rcases hc with ⟨rfl, h0⟩ | ⟨rfl, h0⟩ | ⟨rfl, h0⟩
  · exact ⟨0, σ', μ', by
      rw [f_L_again, hI.gO, Option.bind_some, e1, Option.bind_some]
      exact if_pos rfl, e2, h, h0⟩
  · exact ⟨1, σ', μ', by
      rw [f_L_again, hI.gO, Option.bind_some, e1, Option.bind_some]
      dsimp only
      rw [if_neg (show ¬ (1 : Nat) = 0 by decide), if_pos rfl], e2, h, h0⟩
  · exact ⟨2, σ', μ', by
      rw [f_L_again, hI.gO, Option.bind_some, e1, Option.bind_some]
      dsimp only
      rw [if_neg (show ¬ (3 : Nat) = 0 by decide), if_neg (show ¬ (3 : Nat) = 1 by decide), if_pos rfl], e2, h, h0⟩
theorem pl_deliver (hI : Inv n t tb σ μ) (o : Int64) (x0 : Int32) : ∃ r σ' μ', f_L_deliver σ o tb x0 = some (r, σ', o) ∧ f_X12_deliver μ x0 = some μ' ∧ Inv n t tb σ' μ' ∧ μ'.1 0 = r := by
  obtain ⟨cd, v, σ', μ', e1, e2, h, hc⟩ := pb_deliver hI x0
  rcases hc with ⟨rfl, h0⟩ | ⟨rfl, h0⟩
  · exact ⟨0, σ', μ', by
      rw [f_L_deliver, hI.gO, Option.bind_some, e1, Option.bind_some]
      exact if_pos rfl, e2, h, h0⟩
  · exact ⟨1, σ', μ', by
      rw [f_L_deliver, hI.gO, Option.bind_some, e1, Option.bind_some]
      dsimp only
      rw [if_neg (show ¬ (2 : Nat) = 0 by decide), if_pos rfl], e2, h, h0⟩
theorem pl_lose (hI : Inv n t tb σ μ) (o : Int64) (x0 : Int32) : ∃ r σ' μ', f_L_lose σ o tb x0 = some (r, σ', o) ∧ f_X12_lose μ x0 = some μ' ∧ Inv n t tb σ' μ' ∧ μ'.1 0 = r := by
  obtain ⟨cd, v, σ', μ', e1, e2, h, hc⟩ := pb_lose hI x0
  rcases hc with ⟨rfl, h0⟩ | ⟨rfl, h0⟩
  · exact ⟨0, σ', μ', by
      rw [f_L_lose, hI.gO, Option.bind_some, e1, Option.bind_some]
      exact if_pos rfl, e2, h, h0⟩
  · exact ⟨1, σ', μ', by
      rw [f_L_lose, hI.gO, Option.bind_some, e1, Option.bind_some]
      dsimp only
      rw [if_neg (show ¬ (2 : Nat) = 0 by decide), if_pos rfl], e2, h, h0⟩
theorem pl_flow (hI : Inv n t tb σ μ) (o : Int64) (x0 : Int32) : ∃ r b σ' μ' o', f_L_flow σ o tb x0 = some (r, σ', o') ∧ f_X12_flow μ x0 = some (b, μ') ∧ Inv n t tb σ' μ' ∧ μ'.1 0 = r ∧ (r = 0 → o' = b.toInt64) := by
  obtain ⟨cd, v, σ', b, μ', e1, e2, h, hc⟩ := pb_flow hI x0
  rcases hc with ⟨rfl, h0, hv⟩ | ⟨rfl, h0⟩
  · exact ⟨0, b, σ', μ', v.toInt64, by
      rw [f_L_flow, hI.gO, Option.bind_some, e1, Option.bind_some]
      exact if_pos rfl, e2, h, h0, fun _ => by rw [hv]⟩
  · exact ⟨1, b, σ', μ', o, by
      rw [f_L_flow, hI.gO, Option.bind_some, e1, Option.bind_some]
      dsimp only
      rw [if_neg (show ¬ (2 : Nat) = 0 by decide), if_pos rfl], e2, h, h0, fun h => absurd h (by decide)⟩
theorem pl_down (hI : Inv n t tb σ μ) (o : Int64) (x0 : Int32) : ∃ r σ' μ', f_L_down σ o tb x0 = some (r, σ', o) ∧ f_X12_down μ x0 = some μ' ∧ Inv n t tb σ' μ' ∧ μ'.1 0 = r := by
  obtain ⟨cd, v, σ', μ', e1, e2, h, hc⟩ := pb_down hI x0
  rcases hc with ⟨rfl, h0⟩ | ⟨rfl, h0⟩ | ⟨rfl, h0⟩
  · exact ⟨0, σ', μ', by
      rw [f_L_down, hI.gO, Option.bind_some, e1, Option.bind_some]
      exact if_pos rfl, e2, h, h0⟩
  · exact ⟨1, σ', μ', by
      rw [f_L_down, hI.gO, Option.bind_some, e1, Option.bind_some]
      dsimp only
      rw [if_neg (show ¬ (1 : Nat) = 0 by decide), if_pos rfl], e2, h, h0⟩
  · exact ⟨2, σ', μ', by
      rw [f_L_down, hI.gO, Option.bind_some, e1, Option.bind_some]
      dsimp only
      rw [if_neg (show ¬ (3 : Nat) = 0 by decide), if_neg (show ¬ (3 : Nat) = 1 by decide), if_pos rfl], e2, h, h0⟩
theorem pl_up (hI : Inv n t tb σ μ) (o : Int64) (x0 : Int32) : ∃ r σ' μ', f_L_up σ o tb x0 = some (r, σ', o) ∧ f_X12_up μ x0 = some μ' ∧ Inv n t tb σ' μ' ∧ μ'.1 0 = r := by
  obtain ⟨cd, v, σ', μ', e1, e2, h, hc⟩ := pb_up hI x0
  rcases hc with ⟨rfl, h0⟩ | ⟨rfl, h0⟩ | ⟨rfl, h0⟩
  · exact ⟨0, σ', μ', by
      rw [f_L_up, hI.gO, Option.bind_some, e1, Option.bind_some]
      exact if_pos rfl, e2, h, h0⟩
  · exact ⟨1, σ', μ', by
      rw [f_L_up, hI.gO, Option.bind_some, e1, Option.bind_some]
      dsimp only
      rw [if_neg (show ¬ (1 : Nat) = 0 by decide), if_pos rfl], e2, h, h0⟩
  · exact ⟨2, σ', μ', by
      rw [f_L_up, hI.gO, Option.bind_some, e1, Option.bind_some]
      dsimp only
      rw [if_neg (show ¬ (3 : Nat) = 0 by decide), if_neg (show ¬ (3 : Nat) = 1 by decide), if_pos rfl], e2, h, h0⟩
theorem pl_suspect (hI : Inv n t tb σ μ) (ht : t < 64) (o : Int64) (x0 : Int32) : ∃ r σ' μ', f_L_suspect σ o tb x0 = some (r, σ', o) ∧ f_X12_suspect μ x0 = some μ' ∧ Inv n (t + 1) tb σ' μ' ∧ μ'.1 0 = r := by
  obtain ⟨cd, v, σ', μ', e1, e2, h, hc⟩ := pb_suspect hI ht x0
  rcases hc with ⟨rfl, h0⟩ | ⟨rfl, h0⟩ | ⟨rfl, h0⟩
  · exact ⟨0, σ', μ', by
      rw [f_L_suspect, hI.gO, Option.bind_some, e1, Option.bind_some]
      exact if_pos rfl, e2, h, h0⟩
  · exact ⟨1, σ', μ', by
      rw [f_L_suspect, hI.gO, Option.bind_some, e1, Option.bind_some]
      dsimp only
      rw [if_neg (show ¬ (1 : Nat) = 0 by decide), if_pos rfl], e2, h, h0⟩
  · exact ⟨2, σ', μ', by
      rw [f_L_suspect, hI.gO, Option.bind_some, e1, Option.bind_some]
      dsimp only
      rw [if_neg (show ¬ (3 : Nat) = 0 by decide), if_neg (show ¬ (3 : Nat) = 1 by decide), if_pos rfl], e2, h, h0⟩
theorem pl_nudge (hI : Inv n t tb σ μ) (o : Int64) (x0 : Int32) : ∃ r b σ' μ' o', f_L_nudge σ o tb x0 = some (r, σ', o') ∧ f_X12_nudge μ x0 = some (b, μ') ∧ Inv n t tb σ' μ' ∧ μ'.1 0 = r ∧ (r = 0 → o' = b.toInt64) := by
  obtain ⟨cd, v, σ', b, μ', e1, e2, h, hc⟩ := pb_nudge hI x0
  rcases hc with ⟨rfl, h0, hv⟩ | ⟨rfl, h0⟩ | ⟨rfl, h0⟩
  · exact ⟨0, b, σ', μ', v.toInt64, by
      rw [f_L_nudge, hI.gO, Option.bind_some, e1, Option.bind_some]
      exact if_pos rfl, e2, h, h0, fun _ => by rw [hv]⟩
  · exact ⟨1, b, σ', μ', o, by
      rw [f_L_nudge, hI.gO, Option.bind_some, e1, Option.bind_some]
      dsimp only
      rw [if_neg (show ¬ (1 : Nat) = 0 by decide), if_pos rfl], e2, h, h0, fun h => absurd h (by decide)⟩
  · exact ⟨2, b, σ', μ', o, by
      rw [f_L_nudge, hI.gO, Option.bind_some, e1, Option.bind_some]
      dsimp only
      rw [if_neg (show ¬ (3 : Nat) = 0 by decide), if_neg (show ¬ (3 : Nat) = 1 by decide), if_pos rfl], e2, h, h0, fun h => absurd h (by decide)⟩
theorem pl_sync (hI : Inv n t tb σ μ) (o : Int64) (x0 : Int32) : ∃ r σ' μ', f_L_sync σ o tb x0 = some (r, σ', o) ∧ f_X12_sync_ μ x0 = some μ' ∧ Inv n t tb σ' μ' ∧ μ'.1 0 = r := by
  obtain ⟨cd, v, σ', μ', e1, e2, h, hc⟩ := pb_sync hI x0
  rcases hc with ⟨rfl, h0⟩ | ⟨rfl, h0⟩ | ⟨rfl, h0⟩
  · exact ⟨0, σ', μ', by
      rw [f_L_sync, hI.gO, Option.bind_some, e1, Option.bind_some]
      exact if_pos rfl, e2, h, h0⟩
  · exact ⟨1, σ', μ', by
      rw [f_L_sync, hI.gO, Option.bind_some, e1, Option.bind_some]
      dsimp only
      rw [if_neg (show ¬ (1 : Nat) = 0 by decide), if_pos rfl], e2, h, h0⟩
  · exact ⟨2, σ', μ', by
      rw [f_L_sync, hI.gO, Option.bind_some, e1, Option.bind_some]
      dsimp only
      rw [if_neg (show ¬ (3 : Nat) = 0 by decide), if_neg (show ¬ (3 : Nat) = 1 by decide), if_pos rfl], e2, h, h0⟩
end LPAIR
theorem lcmp0 (x : Int64) : lg_cmp x x = 0 := by
  unfold lg_cmp
  simp
theorem ckL {y z : MethodName} {zc : ByteArray} {zL n i c k mc ms : Nat} {zr : Option FieldType} {rm : Room} {as st : List Value} (h : (Nat.ble (rm.frames + 1) room_1.frames && Nat.ble (8 + (zL + 11) + rm.locals) room_1.locals && Nat.ble ((st.map fun v => v.category).sum) 8 && (rm.cells == mc) && (rm.slots == ms) && (as.length == n)) = true) (hc : c + mc ≤ 600128) (hk : k + ms ≤ 7301064) : CK y room_1 z zc zL zr n rm as st mc ms i c k := by
  simp only [Bool.and_eq_true, beq_iff_eq, Nat.ble_eq] at h
  obtain ⟨⟨⟨⟨⟨h1, h2⟩, h3⟩, h4⟩, h5⟩, h6⟩ := h
  exact ⟨⟨h1, h2⟩, h3, ⟨hc, hk⟩, h4, h5, h6⟩
/-! cell -/
def rm_L_cell : Room := { frames := 0, cells := 0, slots := 0, locals := 0 }
def cel (L : Nat) (xs : Nat → Int32) (i : Nat) : Int32 := if i < L then xs i else 0
def PwX (G : Gm) (b L : Nat) (xs : Nat → Int32) (as : List Value) (w : Wt) : Array Value → State → Prop := va_Pc as (fun U => (Wd G w U.heap ∧ Ks G U) ∧ va_X b L xs U U.heap ∧ b < gB G)
theorem PwX.blind {G : Gm} {b L : Nat} {xs : Nat → Int32} {as : List Value} {w : Wt} : FrameBlind (PwX G b L xs as w) := fun a U g mk h => ⟨h.1, ⟨h.2.1.1, Ks.same (u := U) (U := U.calling g mk a) rfl h.2.1.2⟩, va_X.moved (u := U) (U := U.calling g mk a) (Vm.Alike.refl U.vm) h.2.2.1, h.2.2.2⟩
theorem k_L_cell {G : Gm} {w : Wt} {b L i : Nat} {xs : Nat → Int32} (hL : L < 2 ^ 31) (hi : i < 2 ^ 31) : Met (gl G) yL_cell (wsU yL_cell cL_cell 2 (some .int)) rm_L_cell (PwX G b L xs [.ref b, .int (nI i)] w) (va_Qi (fun (r' : Int32) (_ : Unit) => r' = cel L xs i) (fun _ t => Wd G w t.heap) (gA G)) 0 0 (gA G) := by
  have key : VX (XS G b L xs) G yL_cell cL_cell 2 (some .int) rm_L_cell (fun _ _ s _ args below _ _ => MQ below (va_Qi (fun (r' : Int32) (_ : Unit) => r' = cel L xs i) (fun _ t => Wd G w t.heap) (gA G)) args s 0 0 (gA G)) w 0 0 0 [(0, .ref b), (1, .int (nI i))] [] := by
    have hret : ∀ lv, VX (XS G b L xs) G yL_cell cL_cell 2 (some .int) rm_L_cell (fun _ _ s _ args below _ _ => MQ below (va_Qi (fun (r' : Int32) (_ : Unit) => r' = cel L xs i) (fun _ t => Wd G w t.heap) (gA G)) args s 0 0 (gA G)) w 0 0 13 lv [.int (cel L xs i)] := by
      intro lv p e s m args below meth co H locs ls hX C hW hS hl
      exact W.zret (v := cel L xs i) C.1 C.2.1 C.2.2.2.2.2.2.2.2.1 rfl (fun t ht hV => ⟨⟨cel L xs i, (), rfl, rfl, by show Wd G w t.heap; rw [ht]; exact hW⟩, hS.F ht⟩) hS.2.2 dL_cell_13 (hlocks := C.2.2.2.2.2.1)
    refine Lv_iload_n 1 rfl dL_cell_0 rfl ?_
    refine Lv_aload_n 0 rfl dL_cell_1 rfl ?_
    refine l_slen (fun _ _ h => h) dL_cell_2 rfl ?_
    refine Lv_icmp_ge 12 dL_cell_3 (by decide) rfl (fun h => ?_) (fun h => ?_)
    · rw [nI_leI hL hi] at h
      have e : cel L xs i = 0 := if_neg (by omega)
      refine Lv_iconst (v := (0 : Int32)) (by decide) dL_cell_12 rfl ?_
      rw [← e]
      exact hret _
    · rw [nI_leI hL hi] at h
      have e : cel L xs i = xs i := if_pos (by omega)
      refine Lv_aload_n 0 rfl dL_cell_6 rfl ?_
      refine Lv_iload_n 1 rfl dL_cell_7 rfl ?_
      refine l_sald (fun _ _ h => h) (by omega) hL dL_cell_8 rfl ?_
      refine Lv_goto (q := 13) dL_cell_9 (by decide) ?_
      rw [← e]
      exact hret _
  refine met_ofW (cc := cL_cell) (maxL := 2) (ret := some .int) (by decide +kernel) rfl ?_
  intro p e s m args below meth c s₁ B hml hv
  obtain ⟨rfl, ⟨hW, hK⟩, hX, hb⟩ := hv
  have hts := atoms_spec (ws := wsU yL_cell cL_cell 2 (some .int)) B.pre
  have hl := lv_entry ([.ref b, .int (nI i)]) (n := 2) (Nat.le_of_ble_eq_true rfl)
  rw [lg_entry_eq]
  exact key p e s m _ below meth c s.heap [] _ ⟨hX, hb⟩ ⟨B.exec, B.bytes, hml, findClass_of_methodNamed B.named, fun w hw => hts w (List.mem_cons_of_mem _ hw), B.notSynchronized, hK, hW.2.2.2.2.2, B.returns, (name_of_methodNamed B.named B.method).1, B.named, B.method, (Stand.of_body B).code⟩ hW va_S.rf hl
theorem l_cell {X : State → Array Value → Prop} {G : Gm} {y : MethodName} {cc : ByteArray} {nL : Nat} {ret : Option FieldType} {R : Room} {Z : ZT} {w : Wt} {c k pc q b L i j : Nat} {xs : Nat → Int32} {lv : List (Nat × Value)} {st : List Value} (hXS : ∀ s a, X s a → XS G b L xs s a) (hL : L < 2 ^ 31) (hj : j < 2 ^ 31) (hlk : Cond.methodLink y.cls i yL_cell ∈ gwT) (hck : CK y R yL_cell cL_cell 2 (some .int) 2 rm_L_cell [.ref b, .int (nI j)] st 0 0 i c k) (d : decode cc pc = .ok (.invokestatic i, 3)) (hq : pc + 3 = q)
    (kk : VX X G y cc nL ret R Z w c k q lv (.int (cel L xs j) :: st)) : VX X G y cc nL ret R Z w c k pc lv (.int (nI j) :: .ref b :: st) := by
  intro p e s m args below meth co H locs ls hX C hW hS hl
  obtain ⟨x1, x2⟩ := hXS _ _ hX
  have h3 := C.2.2.2.2.2.2.2.1
  obtain ⟨h1, h2, h3', h4, h5, h6⟩ := hck
  have hts := C.2.2.2.2.1
  refine Lw_ri hX C hS hl (va_runS (As := [.ref b, .int (nI j)]) (rest := st) ⟨C.1, C.2.1, C.2.2.1, C.2.2.2.1, hts⟩ (k_L_cell (xs := xs) hL hj) ⟨callB_of 2 hts (gw_in mk_L_cell.1) rfl h4 h5 (hts _ mk_L_cell.2.1) (hts _ hlk) mk_L_cell.2.2 h1, hts _ ls_cell⟩
    ⟨PwX.blind, fun U hU hV => ⟨rfl, ⟨by rw [hU]; exact hW, Ks.moved hV C.2.2.2.2.2.2.1⟩, va_X.moved hV.alike (by rw [hU]; exact x1.kept (hS.2.1 b (Nat.lt_of_lt_of_le x2 h3) (fun h => absurd (show gB G ≤ b from h) (by omega)))), x2⟩⟩ rfl h6 hl.1 rfl (lv_room h2) d h3') rfl rfl hq kk
