theorem dl_496 : decode code 496 = .ok (.aload_n 1, 1) := by decide +kernel
theorem dl_497 : decode code 497 = .ok (.aload_n 0, 1) := by decide +kernel
theorem dl_498 : decode code 498 = .ok (.iload_n 3, 1) := by decide +kernel
theorem dl_499 : decode code 499 = .ok (.iconst 1, 1) := by decide +kernel
theorem dl_500 : decode code 500 = .ok (.iadd, 1) := by decide +kernel
theorem dl_501 : decode code 501 = .ok (.iaload, 1) := by decide +kernel
theorem dl_502 : decode code 502 = .ok (.aload_n 0, 1) := by decide +kernel
theorem dl_503 : decode code 503 = .ok (.iload_n 3, 1) := by decide +kernel
theorem dl_504 : decode code 504 = .ok (.iconst 2, 1) := by decide +kernel
theorem dl_505 : decode code 505 = .ok (.iadd, 1) := by decide +kernel
theorem dl_506 : decode code 506 = .ok (.iaload, 1) := by decide +kernel
theorem dl_507 : decode code 507 = .ok (.aload_n 0, 1) := by decide +kernel
theorem dl_508 : decode code 508 = .ok (.iload_n 3, 1) := by decide +kernel
theorem dl_509 : decode code 509 = .ok (.iconst 3, 1) := by decide +kernel
theorem dl_510 : decode code 510 = .ok (.iadd, 1) := by decide +kernel
theorem dl_511 : decode code 511 = .ok (.iaload, 1) := by decide +kernel
theorem dl_512 : decode code 512 = .ok (.aload_n 0, 1) := by decide +kernel
theorem dl_513 : decode code 513 = .ok (.iload_n 3, 1) := by decide +kernel
theorem dl_514 : decode code 514 = .ok (.iconst 4, 1) := by decide +kernel
theorem dl_515 : decode code 515 = .ok (.iadd, 1) := by decide +kernel
theorem dl_516 : decode code 516 = .ok (.iaload, 1) := by decide +kernel
theorem dl_517 : decode code 517 = .ok (.invokevirtual 50, 3) := by decide +kernel
theorem dl_520 : decode code 520 = .ok (.aload_n 2, 1) := by decide +kernel
theorem dl_521 : decode code 521 = .ok (.aload_n 0, 1) := by decide +kernel
theorem dl_522 : decode code 522 = .ok (.iload_n 3, 1) := by decide +kernel
theorem dl_523 : decode code 523 = .ok (.iconst 1, 1) := by decide +kernel
theorem dl_524 : decode code 524 = .ok (.iadd, 1) := by decide +kernel
theorem dl_525 : decode code 525 = .ok (.iaload, 1) := by decide +kernel
theorem dl_526 : decode code 526 = .ok (.aload_n 0, 1) := by decide +kernel
theorem dl_527 : decode code 527 = .ok (.iload_n 3, 1) := by decide +kernel
theorem dl_528 : decode code 528 = .ok (.iconst 2, 1) := by decide +kernel
theorem dl_529 : decode code 529 = .ok (.iadd, 1) := by decide +kernel
theorem dl_530 : decode code 530 = .ok (.iaload, 1) := by decide +kernel
theorem dl_531 : decode code 531 = .ok (.aload_n 0, 1) := by decide +kernel
theorem dl_532 : decode code 532 = .ok (.iload_n 3, 1) := by decide +kernel
theorem dl_533 : decode code 533 = .ok (.iconst 3, 1) := by decide +kernel
theorem dl_534 : decode code 534 = .ok (.iadd, 1) := by decide +kernel
theorem dl_535 : decode code 535 = .ok (.iaload, 1) := by decide +kernel
theorem dl_536 : decode code 536 = .ok (.aload_n 0, 1) := by decide +kernel
theorem dl_537 : decode code 537 = .ok (.iload_n 3, 1) := by decide +kernel
theorem dl_538 : decode code 538 = .ok (.iconst 4, 1) := by decide +kernel
theorem dl_539 : decode code 539 = .ok (.iadd, 1) := by decide +kernel
theorem dl_540 : decode code 540 = .ok (.iaload, 1) := by decide +kernel
theorem dl_541 : decode code 541 = .ok (.invokevirtual 54, 3) := by decide +kernel
theorem dl_544 : decode code 544 = .ok (.if_icmp .eq 1037, 3) := by decide +kernel
theorem kl_50 : Jvm.Cond.methodLink R_law 50 yX11_state ∈ qm_all := List.mem_filter.mpr ⟨by decide +kernel, rfl⟩
theorem kl_54 : Jvm.Cond.methodLink R_law 54 yX12_state ∈ qm_all := List.mem_filter.mpr ⟨by decide +kernel, rfl⟩
set_option maxRecDepth 20000 in
theorem law_8 {p : Program} {l : Launch} {e : Env} {s : State} {m : MethodId} {below : List Frame} {meth : Method} {c : Code} {b L : Nat} {xs : Nat → Int32} {g : qm_G} {cells slots i : Nat} {h : qm_H} (C : qL_C p s m meth c b L xs g) (hL : L ≤ 3072) (hik : i + 6 ≤ L) (hcs : cells ≤ 600000 ∧ slots ≤ 7302250) {r : Int32} {h1 h2 : qm_H} (q1 : qX11_state 0 (xs (i + 1)) (xs (i + 2)) (xs (i + 3)) (xs (i + 4)) h = some (r, h1)) (q2 : qX12_state 62 (xs (i + 1)) (xs (i + 2)) (xs (i + 3)) (xs (i + 4)) h1 = some (r, h2)) (kk : qL_W p l e s m below meth c b g cells slots i 1581 [] h2) : qL_W p l e s m below meth c b g cells slots i 496 [] h := by
  refine qL_ldx C dl_496 ?_
  refine qL_arg C (k := 1) (by decide) (by omega) hL dl_497 dl_498 dl_499 dl_500 dl_501 ?_
  refine qL_arg C (k := 2) (by decide) (by omega) hL dl_502 dl_503 dl_504 dl_505 dl_506 ?_
  refine qL_arg C (k := 3) (by decide) (by omega) hL dl_507 dl_508 dl_509 dl_510 dl_511 ?_
  refine qL_arg C (k := 4) (by decide) (by omega) hL dl_512 dl_513 dl_514 dl_515 dl_516 ?_
  refine qL_call C (vs := [qm_i (xs (i + 1)), qm_i (xs (i + 2)), qm_i (xs (i + 3)), qm_i (xs (i + 4))]) (S := []) (ci := 11) (a := 0) (o := (some (qm_i r), h1)) sX11_state ⟨by decide, by decide⟩ jX11_state kl_50 uRX11 ⟨by decide, by decide, rfl⟩ iX11_state rfl C.2.2.2.2.2.2.1 (qL_ints _ (by intro v hv; simp only [List.mem_cons, List.not_mem_nil, or_false] at hv; rcases hv with rfl | rfl | rfl | rfl <;> exact ⟨_, rfl⟩)) rfl (qm_mp (G := qm_Gi) q1) (Nat.le_of_ble_eq_true rfl) dl_517 ?_ hcs
  show qL_W p l e s m below meth c b g cells slots i 520 [qm_i r] h1
  refine qL_ldm C dl_520 ?_
  refine qL_arg C (k := 1) (by decide) (by omega) hL dl_521 dl_522 dl_523 dl_524 dl_525 ?_
  refine qL_arg C (k := 2) (by decide) (by omega) hL dl_526 dl_527 dl_528 dl_529 dl_530 ?_
  refine qL_arg C (k := 3) (by decide) (by omega) hL dl_531 dl_532 dl_533 dl_534 dl_535 ?_
  refine qL_arg C (k := 4) (by decide) (by omega) hL dl_536 dl_537 dl_538 dl_539 dl_540 ?_
  refine qL_call C (vs := [qm_i (xs (i + 1)), qm_i (xs (i + 2)), qm_i (xs (i + 3)), qm_i (xs (i + 4))]) (S := [qm_i r]) (ci := 12) (a := 62) (o := (some (qm_i r), h2)) sX12_state ⟨by decide, by decide⟩ jX12_state kl_54 uRX12 ⟨by decide, by decide, rfl⟩ iX12_state rfl C.2.2.2.2.2.2.2 (qL_ints _ (by intro v hv; simp only [List.mem_cons, List.not_mem_nil, or_false] at hv; rcases hv with rfl | rfl | rfl | rfl <;> exact ⟨_, rfl⟩)) rfl (qm_mp (G := qm_Gi) q2) (Nat.le_of_ble_eq_true rfl) dl_541 ?_ hcs
  show qL_W p l e s m below meth c b g cells slots i 544 [qm_i r, qm_i r] h2
  exact qL_cmp C dl_544 (tgt := 1581) (by decide) kk

theorem dl_549 : decode code 549 = .ok (.aload_n 1, 1) := by decide +kernel
theorem dl_550 : decode code 550 = .ok (.aload_n 0, 1) := by decide +kernel
theorem dl_551 : decode code 551 = .ok (.iload_n 3, 1) := by decide +kernel
theorem dl_552 : decode code 552 = .ok (.iconst 1, 1) := by decide +kernel
theorem dl_553 : decode code 553 = .ok (.iadd, 1) := by decide +kernel
theorem dl_554 : decode code 554 = .ok (.iaload, 1) := by decide +kernel
theorem dl_555 : decode code 555 = .ok (.aload_n 0, 1) := by decide +kernel
theorem dl_556 : decode code 556 = .ok (.iload_n 3, 1) := by decide +kernel
theorem dl_557 : decode code 557 = .ok (.iconst 2, 1) := by decide +kernel
theorem dl_558 : decode code 558 = .ok (.iadd, 1) := by decide +kernel
theorem dl_559 : decode code 559 = .ok (.iaload, 1) := by decide +kernel
theorem dl_560 : decode code 560 = .ok (.aload_n 0, 1) := by decide +kernel
theorem dl_561 : decode code 561 = .ok (.iload_n 3, 1) := by decide +kernel
theorem dl_562 : decode code 562 = .ok (.iconst 3, 1) := by decide +kernel
theorem dl_563 : decode code 563 = .ok (.iadd, 1) := by decide +kernel
theorem dl_564 : decode code 564 = .ok (.iaload, 1) := by decide +kernel
theorem dl_565 : decode code 565 = .ok (.aload_n 0, 1) := by decide +kernel
theorem dl_566 : decode code 566 = .ok (.iload_n 3, 1) := by decide +kernel
theorem dl_567 : decode code 567 = .ok (.iconst 4, 1) := by decide +kernel
theorem dl_568 : decode code 568 = .ok (.iadd, 1) := by decide +kernel
theorem dl_569 : decode code 569 = .ok (.iaload, 1) := by decide +kernel
theorem dl_570 : decode code 570 = .ok (.ifCond .eq 7, 3) := by decide +kernel
theorem dl_573 : decode code 573 = .ok (.iconst 1, 1) := by decide +kernel
theorem dl_574 : decode code 574 = .ok (.goto 4, 3) := by decide +kernel
theorem dl_577 : decode code 577 = .ok (.iconst 0, 1) := by decide +kernel
theorem dl_578 : decode code 578 = .ok (.invokevirtual 55, 3) := by decide +kernel
theorem dl_581 : decode code 581 = .ok (.aload_n 2, 1) := by decide +kernel
theorem dl_582 : decode code 582 = .ok (.aload_n 0, 1) := by decide +kernel
theorem dl_583 : decode code 583 = .ok (.iload_n 3, 1) := by decide +kernel
theorem dl_584 : decode code 584 = .ok (.iconst 1, 1) := by decide +kernel
theorem dl_585 : decode code 585 = .ok (.iadd, 1) := by decide +kernel
theorem dl_586 : decode code 586 = .ok (.iaload, 1) := by decide +kernel
theorem dl_587 : decode code 587 = .ok (.aload_n 0, 1) := by decide +kernel
theorem dl_588 : decode code 588 = .ok (.iload_n 3, 1) := by decide +kernel
theorem dl_589 : decode code 589 = .ok (.iconst 2, 1) := by decide +kernel
theorem dl_590 : decode code 590 = .ok (.iadd, 1) := by decide +kernel
theorem dl_591 : decode code 591 = .ok (.iaload, 1) := by decide +kernel
theorem dl_592 : decode code 592 = .ok (.aload_n 0, 1) := by decide +kernel
theorem dl_593 : decode code 593 = .ok (.iload_n 3, 1) := by decide +kernel
theorem dl_594 : decode code 594 = .ok (.iconst 3, 1) := by decide +kernel
theorem dl_595 : decode code 595 = .ok (.iadd, 1) := by decide +kernel
theorem dl_596 : decode code 596 = .ok (.iaload, 1) := by decide +kernel
theorem dl_597 : decode code 597 = .ok (.aload_n 0, 1) := by decide +kernel
theorem dl_598 : decode code 598 = .ok (.iload_n 3, 1) := by decide +kernel
theorem dl_599 : decode code 599 = .ok (.iconst 4, 1) := by decide +kernel
theorem dl_600 : decode code 600 = .ok (.iadd, 1) := by decide +kernel
theorem dl_601 : decode code 601 = .ok (.iaload, 1) := by decide +kernel
theorem dl_602 : decode code 602 = .ok (.ifCond .eq 7, 3) := by decide +kernel
theorem dl_605 : decode code 605 = .ok (.iconst 1, 1) := by decide +kernel
theorem dl_606 : decode code 606 = .ok (.goto 4, 3) := by decide +kernel
theorem dl_609 : decode code 609 = .ok (.iconst 0, 1) := by decide +kernel
theorem dl_610 : decode code 610 = .ok (.invokevirtual 58, 3) := by decide +kernel
theorem dl_613 : decode code 613 = .ok (.if_icmp .eq 968, 3) := by decide +kernel
theorem kl_55 : Jvm.Cond.methodLink R_law 55 yX11_opens ∈ qm_all := List.mem_filter.mpr ⟨by decide +kernel, rfl⟩
theorem kl_58 : Jvm.Cond.methodLink R_law 58 yX12_opens ∈ qm_all := List.mem_filter.mpr ⟨by decide +kernel, rfl⟩
set_option maxRecDepth 20000 in
theorem law_9 {p : Program} {l : Launch} {e : Env} {s : State} {m : MethodId} {below : List Frame} {meth : Method} {c : Code} {b L : Nat} {xs : Nat → Int32} {g : qm_G} {cells slots i : Nat} {h : qm_H} (C : qL_C p s m meth c b L xs g) (hL : L ≤ 3072) (hik : i + 6 ≤ L) (hcs : cells ≤ 600000 ∧ slots ≤ 7302250) {r : Int32} {h1 h2 : qm_H} (q1 : qX11_opens 0 (xs (i + 1)) (xs (i + 2)) (xs (i + 3)) (qL_b (xs (i + 4))) h = some (r, h1)) (q2 : qX12_opens 62 (xs (i + 1)) (xs (i + 2)) (xs (i + 3)) (qL_b (xs (i + 4))) h1 = some (r, h2)) (kk : qL_W p l e s m below meth c b g cells slots i 1581 [] h2) : qL_W p l e s m below meth c b g cells slots i 549 [] h := by
  refine qL_ldx C dl_549 ?_
  refine qL_arg C (k := 1) (by decide) (by omega) hL dl_550 dl_551 dl_552 dl_553 dl_554 ?_
  refine qL_arg C (k := 2) (by decide) (by omega) hL dl_555 dl_556 dl_557 dl_558 dl_559 ?_
  refine qL_arg C (k := 3) (by decide) (by omega) hL dl_560 dl_561 dl_562 dl_563 dl_564 ?_
  refine qL_arg C (k := 4) (by decide) (by omega) hL dl_565 dl_566 dl_567 dl_568 dl_569 ?_
  refine qL_bool C dl_570 dl_573 dl_574 dl_577 ?_
  refine qL_call C (vs := [qm_i (xs (i + 1)), qm_i (xs (i + 2)), qm_i (xs (i + 3)), qm_i (qL_b (xs (i + 4)))]) (S := []) (ci := 11) (a := 0) (o := (some (qm_i r), h1)) sX11_opens ⟨by decide, by decide⟩ jX11_opens kl_55 uRX11 ⟨by decide, by decide, rfl⟩ iX11_opens rfl C.2.2.2.2.2.2.1 (qL_ints _ (by intro v hv; simp only [List.mem_cons, List.not_mem_nil, or_false] at hv; rcases hv with rfl | rfl | rfl | rfl <;> exact ⟨_, rfl⟩)) rfl (qm_mp (G := qm_Gi) q1) (Nat.le_of_ble_eq_true rfl) dl_578 ?_ hcs
  show qL_W p l e s m below meth c b g cells slots i 581 [qm_i r] h1
  refine qL_ldm C dl_581 ?_
  refine qL_arg C (k := 1) (by decide) (by omega) hL dl_582 dl_583 dl_584 dl_585 dl_586 ?_
  refine qL_arg C (k := 2) (by decide) (by omega) hL dl_587 dl_588 dl_589 dl_590 dl_591 ?_
  refine qL_arg C (k := 3) (by decide) (by omega) hL dl_592 dl_593 dl_594 dl_595 dl_596 ?_
  refine qL_arg C (k := 4) (by decide) (by omega) hL dl_597 dl_598 dl_599 dl_600 dl_601 ?_
  refine qL_bool C dl_602 dl_605 dl_606 dl_609 ?_
  refine qL_call C (vs := [qm_i (xs (i + 1)), qm_i (xs (i + 2)), qm_i (xs (i + 3)), qm_i (qL_b (xs (i + 4)))]) (S := [qm_i r]) (ci := 12) (a := 62) (o := (some (qm_i r), h2)) sX12_opens ⟨by decide, by decide⟩ jX12_opens kl_58 uRX12 ⟨by decide, by decide, rfl⟩ iX12_opens rfl C.2.2.2.2.2.2.2 (qL_ints _ (by intro v hv; simp only [List.mem_cons, List.not_mem_nil, or_false] at hv; rcases hv with rfl | rfl | rfl | rfl <;> exact ⟨_, rfl⟩)) rfl (qm_mp (G := qm_Gi) q2) (Nat.le_of_ble_eq_true rfl) dl_610 ?_ hcs
  show qL_W p l e s m below meth c b g cells slots i 613 [qm_i r, qm_i r] h2
  exact qL_cmp C dl_613 (tgt := 1581) (by decide) kk

theorem dl_618 : decode code 618 = .ok (.aload_n 1, 1) := by decide +kernel
theorem dl_619 : decode code 619 = .ok (.aload_n 0, 1) := by decide +kernel
theorem dl_620 : decode code 620 = .ok (.iload_n 3, 1) := by decide +kernel
theorem dl_621 : decode code 621 = .ok (.iconst 1, 1) := by decide +kernel
theorem dl_622 : decode code 622 = .ok (.iadd, 1) := by decide +kernel
theorem dl_623 : decode code 623 = .ok (.iaload, 1) := by decide +kernel
theorem dl_624 : decode code 624 = .ok (.aload_n 0, 1) := by decide +kernel
theorem dl_625 : decode code 625 = .ok (.iload_n 3, 1) := by decide +kernel
theorem dl_626 : decode code 626 = .ok (.iconst 2, 1) := by decide +kernel
theorem dl_627 : decode code 627 = .ok (.iadd, 1) := by decide +kernel
theorem dl_628 : decode code 628 = .ok (.iaload, 1) := by decide +kernel
theorem dl_629 : decode code 629 = .ok (.aload_n 0, 1) := by decide +kernel
theorem dl_630 : decode code 630 = .ok (.iload_n 3, 1) := by decide +kernel
theorem dl_631 : decode code 631 = .ok (.iconst 3, 1) := by decide +kernel
theorem dl_632 : decode code 632 = .ok (.iadd, 1) := by decide +kernel
theorem dl_633 : decode code 633 = .ok (.iaload, 1) := by decide +kernel
theorem dl_634 : decode code 634 = .ok (.aload_n 0, 1) := by decide +kernel
theorem dl_635 : decode code 635 = .ok (.iload_n 3, 1) := by decide +kernel
theorem dl_636 : decode code 636 = .ok (.iconst 4, 1) := by decide +kernel
theorem dl_637 : decode code 637 = .ok (.iadd, 1) := by decide +kernel
theorem dl_638 : decode code 638 = .ok (.iaload, 1) := by decide +kernel
theorem dl_639 : decode code 639 = .ok (.invokevirtual 59, 3) := by decide +kernel
theorem dl_642 : decode code 642 = .ok (.aload_n 2, 1) := by decide +kernel
theorem dl_643 : decode code 643 = .ok (.aload_n 0, 1) := by decide +kernel
theorem dl_644 : decode code 644 = .ok (.iload_n 3, 1) := by decide +kernel
theorem dl_645 : decode code 645 = .ok (.iconst 1, 1) := by decide +kernel
theorem dl_646 : decode code 646 = .ok (.iadd, 1) := by decide +kernel
theorem dl_647 : decode code 647 = .ok (.iaload, 1) := by decide +kernel
theorem dl_648 : decode code 648 = .ok (.aload_n 0, 1) := by decide +kernel
theorem dl_649 : decode code 649 = .ok (.iload_n 3, 1) := by decide +kernel
theorem dl_650 : decode code 650 = .ok (.iconst 2, 1) := by decide +kernel
theorem dl_651 : decode code 651 = .ok (.iadd, 1) := by decide +kernel
theorem dl_652 : decode code 652 = .ok (.iaload, 1) := by decide +kernel
theorem dl_653 : decode code 653 = .ok (.aload_n 0, 1) := by decide +kernel
theorem dl_654 : decode code 654 = .ok (.iload_n 3, 1) := by decide +kernel
theorem dl_655 : decode code 655 = .ok (.iconst 3, 1) := by decide +kernel
theorem dl_656 : decode code 656 = .ok (.iadd, 1) := by decide +kernel
theorem dl_657 : decode code 657 = .ok (.iaload, 1) := by decide +kernel
theorem dl_658 : decode code 658 = .ok (.aload_n 0, 1) := by decide +kernel
theorem dl_659 : decode code 659 = .ok (.iload_n 3, 1) := by decide +kernel
theorem dl_660 : decode code 660 = .ok (.iconst 4, 1) := by decide +kernel
theorem dl_661 : decode code 661 = .ok (.iadd, 1) := by decide +kernel
theorem dl_662 : decode code 662 = .ok (.iaload, 1) := by decide +kernel
theorem dl_663 : decode code 663 = .ok (.invokevirtual 62, 3) := by decide +kernel
theorem dl_666 : decode code 666 = .ok (.if_icmp .eq 915, 3) := by decide +kernel
theorem kl_59 : Jvm.Cond.methodLink R_law 59 yX11_closes ∈ qm_all := List.mem_filter.mpr ⟨by decide +kernel, rfl⟩
theorem kl_62 : Jvm.Cond.methodLink R_law 62 yX12_closes ∈ qm_all := List.mem_filter.mpr ⟨by decide +kernel, rfl⟩
set_option maxRecDepth 20000 in
theorem law_10 {p : Program} {l : Launch} {e : Env} {s : State} {m : MethodId} {below : List Frame} {meth : Method} {c : Code} {b L : Nat} {xs : Nat → Int32} {g : qm_G} {cells slots i : Nat} {h : qm_H} (C : qL_C p s m meth c b L xs g) (hL : L ≤ 3072) (hik : i + 6 ≤ L) (hcs : cells ≤ 600000 ∧ slots ≤ 7302250) {r : Int32} {h1 h2 : qm_H} (q1 : qX11_closes 0 (xs (i + 1)) (xs (i + 2)) (xs (i + 3)) (xs (i + 4)) h = some (r, h1)) (q2 : qX12_closes 62 (xs (i + 1)) (xs (i + 2)) (xs (i + 3)) (xs (i + 4)) h1 = some (r, h2)) (kk : qL_W p l e s m below meth c b g cells slots i 1581 [] h2) : qL_W p l e s m below meth c b g cells slots i 618 [] h := by
  refine qL_ldx C dl_618 ?_
  refine qL_arg C (k := 1) (by decide) (by omega) hL dl_619 dl_620 dl_621 dl_622 dl_623 ?_
  refine qL_arg C (k := 2) (by decide) (by omega) hL dl_624 dl_625 dl_626 dl_627 dl_628 ?_
  refine qL_arg C (k := 3) (by decide) (by omega) hL dl_629 dl_630 dl_631 dl_632 dl_633 ?_
  refine qL_arg C (k := 4) (by decide) (by omega) hL dl_634 dl_635 dl_636 dl_637 dl_638 ?_
  refine qL_call C (vs := [qm_i (xs (i + 1)), qm_i (xs (i + 2)), qm_i (xs (i + 3)), qm_i (xs (i + 4))]) (S := []) (ci := 11) (a := 0) (o := (some (qm_i r), h1)) sX11_closes ⟨by decide, by decide⟩ jX11_closes kl_59 uRX11 ⟨by decide, by decide, rfl⟩ iX11_closes rfl C.2.2.2.2.2.2.1 (qL_ints _ (by intro v hv; simp only [List.mem_cons, List.not_mem_nil, or_false] at hv; rcases hv with rfl | rfl | rfl | rfl <;> exact ⟨_, rfl⟩)) rfl (qm_mp (G := qm_Gi) q1) (Nat.le_of_ble_eq_true rfl) dl_639 ?_ hcs
  show qL_W p l e s m below meth c b g cells slots i 642 [qm_i r] h1
  refine qL_ldm C dl_642 ?_
  refine qL_arg C (k := 1) (by decide) (by omega) hL dl_643 dl_644 dl_645 dl_646 dl_647 ?_
  refine qL_arg C (k := 2) (by decide) (by omega) hL dl_648 dl_649 dl_650 dl_651 dl_652 ?_
  refine qL_arg C (k := 3) (by decide) (by omega) hL dl_653 dl_654 dl_655 dl_656 dl_657 ?_
  refine qL_arg C (k := 4) (by decide) (by omega) hL dl_658 dl_659 dl_660 dl_661 dl_662 ?_
  refine qL_call C (vs := [qm_i (xs (i + 1)), qm_i (xs (i + 2)), qm_i (xs (i + 3)), qm_i (xs (i + 4))]) (S := [qm_i r]) (ci := 12) (a := 62) (o := (some (qm_i r), h2)) sX12_closes ⟨by decide, by decide⟩ jX12_closes kl_62 uRX12 ⟨by decide, by decide, rfl⟩ iX12_closes rfl C.2.2.2.2.2.2.2 (qL_ints _ (by intro v hv; simp only [List.mem_cons, List.not_mem_nil, or_false] at hv; rcases hv with rfl | rfl | rfl | rfl <;> exact ⟨_, rfl⟩)) rfl (qm_mp (G := qm_Gi) q2) (Nat.le_of_ble_eq_true rfl) dl_663 ?_ hcs
  show qL_W p l e s m below meth c b g cells slots i 666 [qm_i r, qm_i r] h2
  exact qL_cmp C dl_666 (tgt := 1581) (by decide) kk

theorem dl_671 : decode code 671 = .ok (.aload_n 1, 1) := by decide +kernel
theorem dl_672 : decode code 672 = .ok (.aload_n 0, 1) := by decide +kernel
theorem dl_673 : decode code 673 = .ok (.iload_n 3, 1) := by decide +kernel
theorem dl_674 : decode code 674 = .ok (.iconst 1, 1) := by decide +kernel
theorem dl_675 : decode code 675 = .ok (.iadd, 1) := by decide +kernel
theorem dl_676 : decode code 676 = .ok (.iaload, 1) := by decide +kernel
theorem dl_677 : decode code 677 = .ok (.aload_n 0, 1) := by decide +kernel
theorem dl_678 : decode code 678 = .ok (.iload_n 3, 1) := by decide +kernel
theorem dl_679 : decode code 679 = .ok (.iconst 2, 1) := by decide +kernel
theorem dl_680 : decode code 680 = .ok (.iadd, 1) := by decide +kernel
theorem dl_681 : decode code 681 = .ok (.iaload, 1) := by decide +kernel
theorem dl_682 : decode code 682 = .ok (.aload_n 0, 1) := by decide +kernel
theorem dl_683 : decode code 683 = .ok (.iload_n 3, 1) := by decide +kernel
theorem dl_684 : decode code 684 = .ok (.iconst 3, 1) := by decide +kernel
theorem dl_685 : decode code 685 = .ok (.iadd, 1) := by decide +kernel
theorem dl_686 : decode code 686 = .ok (.iaload, 1) := by decide +kernel
theorem dl_687 : decode code 687 = .ok (.aload_n 0, 1) := by decide +kernel
theorem dl_688 : decode code 688 = .ok (.iload_n 3, 1) := by decide +kernel
theorem dl_689 : decode code 689 = .ok (.iconst 4, 1) := by decide +kernel
theorem dl_690 : decode code 690 = .ok (.iadd, 1) := by decide +kernel
theorem dl_691 : decode code 691 = .ok (.iaload, 1) := by decide +kernel
theorem dl_692 : decode code 692 = .ok (.aload_n 0, 1) := by decide +kernel
theorem dl_693 : decode code 693 = .ok (.iload_n 3, 1) := by decide +kernel
theorem dl_694 : decode code 694 = .ok (.iconst 5, 1) := by decide +kernel
theorem dl_695 : decode code 695 = .ok (.iadd, 1) := by decide +kernel
theorem dl_696 : decode code 696 = .ok (.iaload, 1) := by decide +kernel
theorem dl_697 : decode code 697 = .ok (.invokevirtual 63, 3) := by decide +kernel
theorem dl_700 : decode code 700 = .ok (.aload_n 2, 1) := by decide +kernel
theorem dl_701 : decode code 701 = .ok (.aload_n 0, 1) := by decide +kernel
theorem dl_702 : decode code 702 = .ok (.iload_n 3, 1) := by decide +kernel
theorem dl_703 : decode code 703 = .ok (.iconst 1, 1) := by decide +kernel
theorem dl_704 : decode code 704 = .ok (.iadd, 1) := by decide +kernel
theorem dl_705 : decode code 705 = .ok (.iaload, 1) := by decide +kernel
theorem dl_706 : decode code 706 = .ok (.aload_n 0, 1) := by decide +kernel
theorem dl_707 : decode code 707 = .ok (.iload_n 3, 1) := by decide +kernel
theorem dl_708 : decode code 708 = .ok (.iconst 2, 1) := by decide +kernel
theorem dl_709 : decode code 709 = .ok (.iadd, 1) := by decide +kernel
theorem dl_710 : decode code 710 = .ok (.iaload, 1) := by decide +kernel
theorem dl_711 : decode code 711 = .ok (.aload_n 0, 1) := by decide +kernel
theorem dl_712 : decode code 712 = .ok (.iload_n 3, 1) := by decide +kernel
theorem dl_713 : decode code 713 = .ok (.iconst 3, 1) := by decide +kernel
theorem dl_714 : decode code 714 = .ok (.iadd, 1) := by decide +kernel
theorem dl_715 : decode code 715 = .ok (.iaload, 1) := by decide +kernel
theorem dl_716 : decode code 716 = .ok (.aload_n 0, 1) := by decide +kernel
theorem dl_717 : decode code 717 = .ok (.iload_n 3, 1) := by decide +kernel
theorem dl_718 : decode code 718 = .ok (.iconst 4, 1) := by decide +kernel
theorem dl_719 : decode code 719 = .ok (.iadd, 1) := by decide +kernel
theorem dl_720 : decode code 720 = .ok (.iaload, 1) := by decide +kernel
theorem dl_721 : decode code 721 = .ok (.aload_n 0, 1) := by decide +kernel
theorem dl_722 : decode code 722 = .ok (.iload_n 3, 1) := by decide +kernel
theorem dl_723 : decode code 723 = .ok (.iconst 5, 1) := by decide +kernel
theorem dl_724 : decode code 724 = .ok (.iadd, 1) := by decide +kernel
theorem dl_725 : decode code 725 = .ok (.iaload, 1) := by decide +kernel
theorem dl_726 : decode code 726 = .ok (.invokevirtual 66, 3) := by decide +kernel
theorem dl_729 : decode code 729 = .ok (.if_icmp .eq 852, 3) := by decide +kernel
theorem kl_63 : Jvm.Cond.methodLink R_law 63 yX11_sieve ∈ qm_all := List.mem_filter.mpr ⟨by decide +kernel, rfl⟩
theorem kl_66 : Jvm.Cond.methodLink R_law 66 yX12_sieve ∈ qm_all := List.mem_filter.mpr ⟨by decide +kernel, rfl⟩
set_option maxRecDepth 20000 in
theorem law_11 {p : Program} {l : Launch} {e : Env} {s : State} {m : MethodId} {below : List Frame} {meth : Method} {c : Code} {b L : Nat} {xs : Nat → Int32} {g : qm_G} {cells slots i : Nat} {h : qm_H} (C : qL_C p s m meth c b L xs g) (hL : L ≤ 3072) (hik : i + 6 ≤ L) (hcs : cells ≤ 600000 ∧ slots ≤ 7302250) {r : Int32} {h1 h2 : qm_H} (q1 : qX11_sieve 0 (xs (i + 1)) (xs (i + 2)) (xs (i + 3)) (xs (i + 4)) (xs (i + 5)) h = some (r, h1)) (q2 : qX12_sieve 62 (xs (i + 1)) (xs (i + 2)) (xs (i + 3)) (xs (i + 4)) (xs (i + 5)) h1 = some (r, h2)) (kk : qL_W p l e s m below meth c b g cells slots i 1581 [] h2) : qL_W p l e s m below meth c b g cells slots i 671 [] h := by
  refine qL_ldx C dl_671 ?_
  refine qL_arg C (k := 1) (by decide) (by omega) hL dl_672 dl_673 dl_674 dl_675 dl_676 ?_
  refine qL_arg C (k := 2) (by decide) (by omega) hL dl_677 dl_678 dl_679 dl_680 dl_681 ?_
  refine qL_arg C (k := 3) (by decide) (by omega) hL dl_682 dl_683 dl_684 dl_685 dl_686 ?_
  refine qL_arg C (k := 4) (by decide) (by omega) hL dl_687 dl_688 dl_689 dl_690 dl_691 ?_
  refine qL_arg C (k := 5) (by decide) (by omega) hL dl_692 dl_693 dl_694 dl_695 dl_696 ?_
  refine qL_call C (vs := [qm_i (xs (i + 1)), qm_i (xs (i + 2)), qm_i (xs (i + 3)), qm_i (xs (i + 4)), qm_i (xs (i + 5))]) (S := []) (ci := 11) (a := 0) (o := (some (qm_i r), h1)) sX11_sieve ⟨by decide, by decide⟩ jX11_sieve kl_63 uRX11 ⟨by decide, by decide, rfl⟩ iX11_sieve rfl C.2.2.2.2.2.2.1 (qL_ints _ (by intro v hv; simp only [List.mem_cons, List.not_mem_nil, or_false] at hv; rcases hv with rfl | rfl | rfl | rfl | rfl <;> exact ⟨_, rfl⟩)) rfl (qm_mp (G := qm_Gi) q1) (Nat.le_of_ble_eq_true rfl) dl_697 ?_ hcs
  show qL_W p l e s m below meth c b g cells slots i 700 [qm_i r] h1
  refine qL_ldm C dl_700 ?_
  refine qL_arg C (k := 1) (by decide) (by omega) hL dl_701 dl_702 dl_703 dl_704 dl_705 ?_
  refine qL_arg C (k := 2) (by decide) (by omega) hL dl_706 dl_707 dl_708 dl_709 dl_710 ?_
  refine qL_arg C (k := 3) (by decide) (by omega) hL dl_711 dl_712 dl_713 dl_714 dl_715 ?_
  refine qL_arg C (k := 4) (by decide) (by omega) hL dl_716 dl_717 dl_718 dl_719 dl_720 ?_
  refine qL_arg C (k := 5) (by decide) (by omega) hL dl_721 dl_722 dl_723 dl_724 dl_725 ?_
  refine qL_call C (vs := [qm_i (xs (i + 1)), qm_i (xs (i + 2)), qm_i (xs (i + 3)), qm_i (xs (i + 4)), qm_i (xs (i + 5))]) (S := [qm_i r]) (ci := 12) (a := 62) (o := (some (qm_i r), h2)) sX12_sieve ⟨by decide, by decide⟩ jX12_sieve kl_66 uRX12 ⟨by decide, by decide, rfl⟩ iX12_sieve rfl C.2.2.2.2.2.2.2 (qL_ints _ (by intro v hv; simp only [List.mem_cons, List.not_mem_nil, or_false] at hv; rcases hv with rfl | rfl | rfl | rfl | rfl <;> exact ⟨_, rfl⟩)) rfl (qm_mp (G := qm_Gi) q2) (Nat.le_of_ble_eq_true rfl) dl_726 ?_ hcs
  show qL_W p l e s m below meth c b g cells slots i 729 [qm_i r, qm_i r] h2
  exact qL_cmp C dl_729 (tgt := 1581) (by decide) kk

theorem dl_734 : decode code 734 = .ok (.aload_n 1, 1) := by decide +kernel
theorem dl_735 : decode code 735 = .ok (.aload_n 0, 1) := by decide +kernel
theorem dl_736 : decode code 736 = .ok (.iload_n 3, 1) := by decide +kernel
theorem dl_737 : decode code 737 = .ok (.iconst 1, 1) := by decide +kernel
theorem dl_738 : decode code 738 = .ok (.iadd, 1) := by decide +kernel
theorem dl_739 : decode code 739 = .ok (.iaload, 1) := by decide +kernel
theorem dl_740 : decode code 740 = .ok (.aload_n 0, 1) := by decide +kernel
theorem dl_741 : decode code 741 = .ok (.iload_n 3, 1) := by decide +kernel
theorem dl_742 : decode code 742 = .ok (.iconst 2, 1) := by decide +kernel
theorem dl_743 : decode code 743 = .ok (.iadd, 1) := by decide +kernel
theorem dl_744 : decode code 744 = .ok (.iaload, 1) := by decide +kernel
theorem dl_745 : decode code 745 = .ok (.aload_n 0, 1) := by decide +kernel
theorem dl_746 : decode code 746 = .ok (.iload_n 3, 1) := by decide +kernel
theorem dl_747 : decode code 747 = .ok (.iconst 3, 1) := by decide +kernel
theorem dl_748 : decode code 748 = .ok (.iadd, 1) := by decide +kernel
theorem dl_749 : decode code 749 = .ok (.iaload, 1) := by decide +kernel
theorem dl_750 : decode code 750 = .ok (.ifCond .eq 7, 3) := by decide +kernel
theorem dl_753 : decode code 753 = .ok (.iconst 1, 1) := by decide +kernel
theorem dl_754 : decode code 754 = .ok (.goto 4, 3) := by decide +kernel
theorem dl_757 : decode code 757 = .ok (.iconst 0, 1) := by decide +kernel
theorem dl_758 : decode code 758 = .ok (.invokevirtual 67, 3) := by decide +kernel
theorem dl_761 : decode code 761 = .ok (.aload_n 2, 1) := by decide +kernel
theorem dl_762 : decode code 762 = .ok (.aload_n 0, 1) := by decide +kernel
theorem dl_763 : decode code 763 = .ok (.iload_n 3, 1) := by decide +kernel
theorem dl_764 : decode code 764 = .ok (.iconst 1, 1) := by decide +kernel
theorem dl_765 : decode code 765 = .ok (.iadd, 1) := by decide +kernel
theorem dl_766 : decode code 766 = .ok (.iaload, 1) := by decide +kernel
theorem dl_767 : decode code 767 = .ok (.aload_n 0, 1) := by decide +kernel
theorem dl_768 : decode code 768 = .ok (.iload_n 3, 1) := by decide +kernel
theorem dl_769 : decode code 769 = .ok (.iconst 2, 1) := by decide +kernel
theorem dl_770 : decode code 770 = .ok (.iadd, 1) := by decide +kernel
theorem dl_771 : decode code 771 = .ok (.iaload, 1) := by decide +kernel
theorem dl_772 : decode code 772 = .ok (.aload_n 0, 1) := by decide +kernel
theorem dl_773 : decode code 773 = .ok (.iload_n 3, 1) := by decide +kernel
theorem dl_774 : decode code 774 = .ok (.iconst 3, 1) := by decide +kernel
theorem dl_775 : decode code 775 = .ok (.iadd, 1) := by decide +kernel
theorem dl_776 : decode code 776 = .ok (.iaload, 1) := by decide +kernel
theorem dl_777 : decode code 777 = .ok (.ifCond .eq 7, 3) := by decide +kernel
theorem dl_780 : decode code 780 = .ok (.iconst 1, 1) := by decide +kernel
theorem dl_781 : decode code 781 = .ok (.goto 4, 3) := by decide +kernel
theorem dl_784 : decode code 784 = .ok (.iconst 0, 1) := by decide +kernel
theorem dl_785 : decode code 785 = .ok (.invokevirtual 71, 3) := by decide +kernel
theorem dl_788 : decode code 788 = .ok (.if_icmp .eq 793, 3) := by decide +kernel
theorem kl_67 : Jvm.Cond.methodLink R_law 67 yX11_escape ∈ qm_all := List.mem_filter.mpr ⟨by decide +kernel, rfl⟩
theorem kl_71 : Jvm.Cond.methodLink R_law 71 yX12_escape ∈ qm_all := List.mem_filter.mpr ⟨by decide +kernel, rfl⟩
set_option maxRecDepth 20000 in
theorem law_12 {p : Program} {l : Launch} {e : Env} {s : State} {m : MethodId} {below : List Frame} {meth : Method} {c : Code} {b L : Nat} {xs : Nat → Int32} {g : qm_G} {cells slots i : Nat} {h : qm_H} (C : qL_C p s m meth c b L xs g) (hL : L ≤ 3072) (hik : i + 6 ≤ L) (hcs : cells ≤ 600000 ∧ slots ≤ 7302250) {r : Int32} {h1 h2 : qm_H} (q1 : qX11_escape 0 (xs (i + 1)) (xs (i + 2)) (qL_b (xs (i + 3))) h = some (r, h1)) (q2 : qX12_escape 62 (xs (i + 1)) (xs (i + 2)) (qL_b (xs (i + 3))) h1 = some (r, h2)) (kk : qL_W p l e s m below meth c b g cells slots i 1581 [] h2) : qL_W p l e s m below meth c b g cells slots i 734 [] h := by
  refine qL_ldx C dl_734 ?_
  refine qL_arg C (k := 1) (by decide) (by omega) hL dl_735 dl_736 dl_737 dl_738 dl_739 ?_
  refine qL_arg C (k := 2) (by decide) (by omega) hL dl_740 dl_741 dl_742 dl_743 dl_744 ?_
  refine qL_arg C (k := 3) (by decide) (by omega) hL dl_745 dl_746 dl_747 dl_748 dl_749 ?_
  refine qL_bool C dl_750 dl_753 dl_754 dl_757 ?_
  refine qL_call C (vs := [qm_i (xs (i + 1)), qm_i (xs (i + 2)), qm_i (qL_b (xs (i + 3)))]) (S := []) (ci := 11) (a := 0) (o := (some (qm_i r), h1)) sX11_escape ⟨by decide, by decide⟩ jX11_escape kl_67 uRX11 ⟨by decide, by decide, rfl⟩ iX11_escape rfl C.2.2.2.2.2.2.1 (qL_ints _ (by intro v hv; simp only [List.mem_cons, List.not_mem_nil, or_false] at hv; rcases hv with rfl | rfl | rfl <;> exact ⟨_, rfl⟩)) rfl (qm_mp (G := qm_Gi) q1) (Nat.le_of_ble_eq_true rfl) dl_758 ?_ hcs
  show qL_W p l e s m below meth c b g cells slots i 761 [qm_i r] h1
  refine qL_ldm C dl_761 ?_
  refine qL_arg C (k := 1) (by decide) (by omega) hL dl_762 dl_763 dl_764 dl_765 dl_766 ?_
  refine qL_arg C (k := 2) (by decide) (by omega) hL dl_767 dl_768 dl_769 dl_770 dl_771 ?_
  refine qL_arg C (k := 3) (by decide) (by omega) hL dl_772 dl_773 dl_774 dl_775 dl_776 ?_
  refine qL_bool C dl_777 dl_780 dl_781 dl_784 ?_
  refine qL_call C (vs := [qm_i (xs (i + 1)), qm_i (xs (i + 2)), qm_i (qL_b (xs (i + 3)))]) (S := [qm_i r]) (ci := 12) (a := 62) (o := (some (qm_i r), h2)) sX12_escape ⟨by decide, by decide⟩ jX12_escape kl_71 uRX12 ⟨by decide, by decide, rfl⟩ iX12_escape rfl C.2.2.2.2.2.2.2 (qL_ints _ (by intro v hv; simp only [List.mem_cons, List.not_mem_nil, or_false] at hv; rcases hv with rfl | rfl | rfl <;> exact ⟨_, rfl⟩)) rfl (qm_mp (G := qm_Gi) q2) (Nat.le_of_ble_eq_true rfl) dl_785 ?_ hcs
  show qL_W p l e s m below meth c b g cells slots i 788 [qm_i r, qm_i r] h2
  exact qL_cmp C dl_788 (tgt := 1581) (by decide) kk

theorem dl_793 : decode code 793 = .ok (.aload_n 1, 1) := by decide +kernel
theorem dl_794 : decode code 794 = .ok (.aload_n 0, 1) := by decide +kernel
theorem dl_795 : decode code 795 = .ok (.iload_n 3, 1) := by decide +kernel
theorem dl_796 : decode code 796 = .ok (.iconst 1, 1) := by decide +kernel
theorem dl_797 : decode code 797 = .ok (.iadd, 1) := by decide +kernel
theorem dl_798 : decode code 798 = .ok (.iaload, 1) := by decide +kernel
theorem dl_799 : decode code 799 = .ok (.aload_n 0, 1) := by decide +kernel
theorem dl_800 : decode code 800 = .ok (.iload_n 3, 1) := by decide +kernel
theorem dl_801 : decode code 801 = .ok (.iconst 2, 1) := by decide +kernel
theorem dl_802 : decode code 802 = .ok (.iadd, 1) := by decide +kernel
theorem dl_803 : decode code 803 = .ok (.iaload, 1) := by decide +kernel
theorem dl_804 : decode code 804 = .ok (.invokevirtual 72, 3) := by decide +kernel
theorem dl_807 : decode code 807 = .ok (.aload_n 2, 1) := by decide +kernel
theorem dl_808 : decode code 808 = .ok (.aload_n 0, 1) := by decide +kernel
theorem dl_809 : decode code 809 = .ok (.iload_n 3, 1) := by decide +kernel
theorem dl_810 : decode code 810 = .ok (.iconst 1, 1) := by decide +kernel
theorem dl_811 : decode code 811 = .ok (.iadd, 1) := by decide +kernel
theorem dl_812 : decode code 812 = .ok (.iaload, 1) := by decide +kernel
theorem dl_813 : decode code 813 = .ok (.aload_n 0, 1) := by decide +kernel
theorem dl_814 : decode code 814 = .ok (.iload_n 3, 1) := by decide +kernel
theorem dl_815 : decode code 815 = .ok (.iconst 2, 1) := by decide +kernel
theorem dl_816 : decode code 816 = .ok (.iadd, 1) := by decide +kernel
theorem dl_817 : decode code 817 = .ok (.iaload, 1) := by decide +kernel
theorem dl_818 : decode code 818 = .ok (.invokevirtual 75, 3) := by decide +kernel
theorem dl_821 : decode code 821 = .ok (.if_icmp .eq 760, 3) := by decide +kernel
theorem kl_72 : Jvm.Cond.methodLink R_law 72 yX11_holes ∈ qm_all := List.mem_filter.mpr ⟨by decide +kernel, rfl⟩
theorem kl_75 : Jvm.Cond.methodLink R_law 75 yX12_holes ∈ qm_all := List.mem_filter.mpr ⟨by decide +kernel, rfl⟩
set_option maxRecDepth 20000 in
theorem law_13 {p : Program} {l : Launch} {e : Env} {s : State} {m : MethodId} {below : List Frame} {meth : Method} {c : Code} {b L : Nat} {xs : Nat → Int32} {g : qm_G} {cells slots i : Nat} {h : qm_H} (C : qL_C p s m meth c b L xs g) (hL : L ≤ 3072) (hik : i + 6 ≤ L) (hcs : cells ≤ 600000 ∧ slots ≤ 7302250) {r : Int32} {h1 h2 : qm_H} (q1 : qX11_holes 0 (xs (i + 1)) (xs (i + 2)) h = some (r, h1)) (q2 : qX12_holes 62 (xs (i + 1)) (xs (i + 2)) h1 = some (r, h2)) (kk : qL_W p l e s m below meth c b g cells slots i 1581 [] h2) : qL_W p l e s m below meth c b g cells slots i 793 [] h := by
  refine qL_ldx C dl_793 ?_
  refine qL_arg C (k := 1) (by decide) (by omega) hL dl_794 dl_795 dl_796 dl_797 dl_798 ?_
  refine qL_arg C (k := 2) (by decide) (by omega) hL dl_799 dl_800 dl_801 dl_802 dl_803 ?_
  refine qL_call C (vs := [qm_i (xs (i + 1)), qm_i (xs (i + 2))]) (S := []) (ci := 11) (a := 0) (o := (some (qm_i r), h1)) sX11_holes ⟨by decide, by decide⟩ jX11_holes kl_72 uRX11 ⟨by decide, by decide, rfl⟩ iX11_holes rfl C.2.2.2.2.2.2.1 (qL_ints _ (by intro v hv; simp only [List.mem_cons, List.not_mem_nil, or_false] at hv; rcases hv with rfl | rfl <;> exact ⟨_, rfl⟩)) rfl (qm_mp (G := qm_Gi) q1) (Nat.le_of_ble_eq_true rfl) dl_804 ?_ hcs
  show qL_W p l e s m below meth c b g cells slots i 807 [qm_i r] h1
  refine qL_ldm C dl_807 ?_
  refine qL_arg C (k := 1) (by decide) (by omega) hL dl_808 dl_809 dl_810 dl_811 dl_812 ?_
  refine qL_arg C (k := 2) (by decide) (by omega) hL dl_813 dl_814 dl_815 dl_816 dl_817 ?_
  refine qL_call C (vs := [qm_i (xs (i + 1)), qm_i (xs (i + 2))]) (S := [qm_i r]) (ci := 12) (a := 62) (o := (some (qm_i r), h2)) sX12_holes ⟨by decide, by decide⟩ jX12_holes kl_75 uRX12 ⟨by decide, by decide, rfl⟩ iX12_holes rfl C.2.2.2.2.2.2.2 (qL_ints _ (by intro v hv; simp only [List.mem_cons, List.not_mem_nil, or_false] at hv; rcases hv with rfl | rfl <;> exact ⟨_, rfl⟩)) rfl (qm_mp (G := qm_Gi) q2) (Nat.le_of_ble_eq_true rfl) dl_818 ?_ hcs
  show qL_W p l e s m below meth c b g cells slots i 821 [qm_i r, qm_i r] h2
  exact qL_cmp C dl_821 (tgt := 1581) (by decide) kk

theorem dl_826 : decode code 826 = .ok (.aload_n 1, 1) := by decide +kernel
theorem dl_827 : decode code 827 = .ok (.aload_n 0, 1) := by decide +kernel
theorem dl_828 : decode code 828 = .ok (.iload_n 3, 1) := by decide +kernel
theorem dl_829 : decode code 829 = .ok (.iconst 1, 1) := by decide +kernel
theorem dl_830 : decode code 830 = .ok (.iadd, 1) := by decide +kernel
theorem dl_831 : decode code 831 = .ok (.iaload, 1) := by decide +kernel
theorem dl_832 : decode code 832 = .ok (.aload_n 0, 1) := by decide +kernel
theorem dl_833 : decode code 833 = .ok (.iload_n 3, 1) := by decide +kernel
theorem dl_834 : decode code 834 = .ok (.iconst 2, 1) := by decide +kernel
theorem dl_835 : decode code 835 = .ok (.iadd, 1) := by decide +kernel
theorem dl_836 : decode code 836 = .ok (.iaload, 1) := by decide +kernel
theorem dl_837 : decode code 837 = .ok (.aload_n 0, 1) := by decide +kernel
theorem dl_838 : decode code 838 = .ok (.iload_n 3, 1) := by decide +kernel
theorem dl_839 : decode code 839 = .ok (.iconst 3, 1) := by decide +kernel
theorem dl_840 : decode code 840 = .ok (.iadd, 1) := by decide +kernel
theorem dl_841 : decode code 841 = .ok (.iaload, 1) := by decide +kernel
theorem dl_842 : decode code 842 = .ok (.invokevirtual 76, 3) := by decide +kernel
theorem dl_845 : decode code 845 = .ok (.aload_n 2, 1) := by decide +kernel
theorem dl_846 : decode code 846 = .ok (.aload_n 0, 1) := by decide +kernel
theorem dl_847 : decode code 847 = .ok (.iload_n 3, 1) := by decide +kernel
theorem dl_848 : decode code 848 = .ok (.iconst 1, 1) := by decide +kernel
theorem dl_849 : decode code 849 = .ok (.iadd, 1) := by decide +kernel
theorem dl_850 : decode code 850 = .ok (.iaload, 1) := by decide +kernel
theorem dl_851 : decode code 851 = .ok (.aload_n 0, 1) := by decide +kernel
theorem dl_852 : decode code 852 = .ok (.iload_n 3, 1) := by decide +kernel
theorem dl_853 : decode code 853 = .ok (.iconst 2, 1) := by decide +kernel
theorem dl_854 : decode code 854 = .ok (.iadd, 1) := by decide +kernel
theorem dl_855 : decode code 855 = .ok (.iaload, 1) := by decide +kernel
theorem dl_856 : decode code 856 = .ok (.aload_n 0, 1) := by decide +kernel
theorem dl_857 : decode code 857 = .ok (.iload_n 3, 1) := by decide +kernel
theorem dl_858 : decode code 858 = .ok (.iconst 3, 1) := by decide +kernel
theorem dl_859 : decode code 859 = .ok (.iadd, 1) := by decide +kernel
theorem dl_860 : decode code 860 = .ok (.iaload, 1) := by decide +kernel
theorem dl_861 : decode code 861 = .ok (.invokevirtual 80, 3) := by decide +kernel
theorem dl_864 : decode code 864 = .ok (.lcmp, 1) := by decide +kernel
theorem dl_865 : decode code 865 = .ok (.ifCond .eq 716, 3) := by decide +kernel
theorem kl_76 : Jvm.Cond.methodLink R_law 76 yX11_last ∈ qm_all := List.mem_filter.mpr ⟨by decide +kernel, rfl⟩
theorem kl_80 : Jvm.Cond.methodLink R_law 80 yX12_last ∈ qm_all := List.mem_filter.mpr ⟨by decide +kernel, rfl⟩
set_option maxRecDepth 20000 in
theorem law_14 {p : Program} {l : Launch} {e : Env} {s : State} {m : MethodId} {below : List Frame} {meth : Method} {c : Code} {b L : Nat} {xs : Nat → Int32} {g : qm_G} {cells slots i : Nat} {h : qm_H} (C : qL_C p s m meth c b L xs g) (hL : L ≤ 3072) (hik : i + 6 ≤ L) (hcs : cells ≤ 600000 ∧ slots ≤ 7302250) {r : Int64} {h1 h2 : qm_H} (q1 : qX11_last 0 (xs (i + 1)) (xs (i + 2)) (xs (i + 3)) h = some (r, h1)) (q2 : qX12_last 62 (xs (i + 1)) (xs (i + 2)) (xs (i + 3)) h1 = some (r, h2)) (kk : qL_W p l e s m below meth c b g cells slots i 1581 [] h2) : qL_W p l e s m below meth c b g cells slots i 826 [] h := by
  refine qL_ldx C dl_826 ?_
  refine qL_arg C (k := 1) (by decide) (by omega) hL dl_827 dl_828 dl_829 dl_830 dl_831 ?_
  refine qL_arg C (k := 2) (by decide) (by omega) hL dl_832 dl_833 dl_834 dl_835 dl_836 ?_
  refine qL_arg C (k := 3) (by decide) (by omega) hL dl_837 dl_838 dl_839 dl_840 dl_841 ?_
  refine qL_call C (vs := [qm_i (xs (i + 1)), qm_i (xs (i + 2)), qm_i (xs (i + 3))]) (S := []) (ci := 11) (a := 0) (o := (some (qm_l r), h1)) sX11_last ⟨by decide, by decide⟩ jX11_last kl_76 uRX11 ⟨by decide, by decide, rfl⟩ iX11_last rfl C.2.2.2.2.2.2.1 (qL_ints _ (by intro v hv; simp only [List.mem_cons, List.not_mem_nil, or_false] at hv; rcases hv with rfl | rfl | rfl <;> exact ⟨_, rfl⟩)) rfl (qm_mp (G := qm_Gl) q1) (Nat.le_of_ble_eq_true rfl) dl_842 ?_ hcs
  show qL_W p l e s m below meth c b g cells slots i 845 [qm_l r] h1
  refine qL_ldm C dl_845 ?_
  refine qL_arg C (k := 1) (by decide) (by omega) hL dl_846 dl_847 dl_848 dl_849 dl_850 ?_
  refine qL_arg C (k := 2) (by decide) (by omega) hL dl_851 dl_852 dl_853 dl_854 dl_855 ?_
  refine qL_arg C (k := 3) (by decide) (by omega) hL dl_856 dl_857 dl_858 dl_859 dl_860 ?_
  refine qL_call C (vs := [qm_i (xs (i + 1)), qm_i (xs (i + 2)), qm_i (xs (i + 3))]) (S := [qm_l r]) (ci := 12) (a := 62) (o := (some (qm_l r), h2)) sX12_last ⟨by decide, by decide⟩ jX12_last kl_80 uRX12 ⟨by decide, by decide, rfl⟩ iX12_last rfl C.2.2.2.2.2.2.2 (qL_ints _ (by intro v hv; simp only [List.mem_cons, List.not_mem_nil, or_false] at hv; rcases hv with rfl | rfl | rfl <;> exact ⟨_, rfl⟩)) rfl (qm_mp (G := qm_Gl) q2) (Nat.le_of_ble_eq_true rfl) dl_861 ?_ hcs
  show qL_W p l e s m below meth c b g cells slots i 864 [qm_l r, qm_l r] h2
  exact qL_lcmp C dl_864 dl_865 (tgt := 1581) (by decide) kk

theorem dl_870 : decode code 870 = .ok (.aload_n 1, 1) := by decide +kernel
theorem dl_871 : decode code 871 = .ok (.aload_n 0, 1) := by decide +kernel
theorem dl_872 : decode code 872 = .ok (.iload_n 3, 1) := by decide +kernel
theorem dl_873 : decode code 873 = .ok (.iconst 1, 1) := by decide +kernel
theorem dl_874 : decode code 874 = .ok (.iadd, 1) := by decide +kernel
theorem dl_875 : decode code 875 = .ok (.iaload, 1) := by decide +kernel
theorem dl_876 : decode code 876 = .ok (.aload_n 0, 1) := by decide +kernel
theorem dl_877 : decode code 877 = .ok (.iload_n 3, 1) := by decide +kernel
theorem dl_878 : decode code 878 = .ok (.iconst 2, 1) := by decide +kernel
theorem dl_879 : decode code 879 = .ok (.iadd, 1) := by decide +kernel
theorem dl_880 : decode code 880 = .ok (.iaload, 1) := by decide +kernel
theorem dl_881 : decode code 881 = .ok (.aload_n 0, 1) := by decide +kernel
theorem dl_882 : decode code 882 = .ok (.iload_n 3, 1) := by decide +kernel
theorem dl_883 : decode code 883 = .ok (.iconst 3, 1) := by decide +kernel
theorem dl_884 : decode code 884 = .ok (.iadd, 1) := by decide +kernel
theorem dl_885 : decode code 885 = .ok (.iaload, 1) := by decide +kernel
theorem dl_886 : decode code 886 = .ok (.ifCond .eq 7, 3) := by decide +kernel
theorem dl_889 : decode code 889 = .ok (.iconst 1, 1) := by decide +kernel
theorem dl_890 : decode code 890 = .ok (.goto 4, 3) := by decide +kernel
theorem dl_893 : decode code 893 = .ok (.iconst 0, 1) := by decide +kernel
theorem dl_894 : decode code 894 = .ok (.invokevirtual 81, 3) := by decide +kernel
theorem dl_897 : decode code 897 = .ok (.aload_n 2, 1) := by decide +kernel
theorem dl_898 : decode code 898 = .ok (.aload_n 0, 1) := by decide +kernel
theorem dl_899 : decode code 899 = .ok (.iload_n 3, 1) := by decide +kernel
theorem dl_900 : decode code 900 = .ok (.iconst 1, 1) := by decide +kernel
theorem dl_901 : decode code 901 = .ok (.iadd, 1) := by decide +kernel
theorem dl_902 : decode code 902 = .ok (.iaload, 1) := by decide +kernel
theorem dl_903 : decode code 903 = .ok (.aload_n 0, 1) := by decide +kernel
theorem dl_904 : decode code 904 = .ok (.iload_n 3, 1) := by decide +kernel
theorem dl_905 : decode code 905 = .ok (.iconst 2, 1) := by decide +kernel
theorem dl_906 : decode code 906 = .ok (.iadd, 1) := by decide +kernel
theorem dl_907 : decode code 907 = .ok (.iaload, 1) := by decide +kernel
theorem dl_908 : decode code 908 = .ok (.aload_n 0, 1) := by decide +kernel
theorem dl_909 : decode code 909 = .ok (.iload_n 3, 1) := by decide +kernel
theorem dl_910 : decode code 910 = .ok (.iconst 3, 1) := by decide +kernel
theorem dl_911 : decode code 911 = .ok (.iadd, 1) := by decide +kernel
theorem dl_912 : decode code 912 = .ok (.iaload, 1) := by decide +kernel
theorem dl_913 : decode code 913 = .ok (.ifCond .eq 7, 3) := by decide +kernel
theorem dl_916 : decode code 916 = .ok (.iconst 1, 1) := by decide +kernel
theorem dl_917 : decode code 917 = .ok (.goto 4, 3) := by decide +kernel
theorem dl_920 : decode code 920 = .ok (.iconst 0, 1) := by decide +kernel
theorem dl_921 : decode code 921 = .ok (.invokevirtual 84, 3) := by decide +kernel
theorem dl_924 : decode code 924 = .ok (.if_icmp .eq 657, 3) := by decide +kernel
theorem kl_81 : Jvm.Cond.methodLink R_law 81 yX11_unlike ∈ qm_all := List.mem_filter.mpr ⟨by decide +kernel, rfl⟩
theorem kl_84 : Jvm.Cond.methodLink R_law 84 yX12_unlike ∈ qm_all := List.mem_filter.mpr ⟨by decide +kernel, rfl⟩
set_option maxRecDepth 20000 in
theorem law_15 {p : Program} {l : Launch} {e : Env} {s : State} {m : MethodId} {below : List Frame} {meth : Method} {c : Code} {b L : Nat} {xs : Nat → Int32} {g : qm_G} {cells slots i : Nat} {h : qm_H} (C : qL_C p s m meth c b L xs g) (hL : L ≤ 3072) (hik : i + 6 ≤ L) (hcs : cells ≤ 600000 ∧ slots ≤ 7302250) {r : Int32} {h1 h2 : qm_H} (q1 : qX11_unlike 0 (xs (i + 1)) (xs (i + 2)) (qL_b (xs (i + 3))) h = some (r, h1)) (q2 : qX12_unlike 62 (xs (i + 1)) (xs (i + 2)) (qL_b (xs (i + 3))) h1 = some (r, h2)) (kk : qL_W p l e s m below meth c b g cells slots i 1581 [] h2) : qL_W p l e s m below meth c b g cells slots i 870 [] h := by
  refine qL_ldx C dl_870 ?_
  refine qL_arg C (k := 1) (by decide) (by omega) hL dl_871 dl_872 dl_873 dl_874 dl_875 ?_
  refine qL_arg C (k := 2) (by decide) (by omega) hL dl_876 dl_877 dl_878 dl_879 dl_880 ?_
  refine qL_arg C (k := 3) (by decide) (by omega) hL dl_881 dl_882 dl_883 dl_884 dl_885 ?_
  refine qL_bool C dl_886 dl_889 dl_890 dl_893 ?_
  refine qL_call C (vs := [qm_i (xs (i + 1)), qm_i (xs (i + 2)), qm_i (qL_b (xs (i + 3)))]) (S := []) (ci := 11) (a := 0) (o := (some (qm_i r), h1)) sX11_unlike ⟨by decide, by decide⟩ jX11_unlike kl_81 uRX11 ⟨by decide, by decide, rfl⟩ iX11_unlike rfl C.2.2.2.2.2.2.1 (qL_ints _ (by intro v hv; simp only [List.mem_cons, List.not_mem_nil, or_false] at hv; rcases hv with rfl | rfl | rfl <;> exact ⟨_, rfl⟩)) rfl (qm_mp (G := qm_Gi) q1) (Nat.le_of_ble_eq_true rfl) dl_894 ?_ hcs
  show qL_W p l e s m below meth c b g cells slots i 897 [qm_i r] h1
  refine qL_ldm C dl_897 ?_
  refine qL_arg C (k := 1) (by decide) (by omega) hL dl_898 dl_899 dl_900 dl_901 dl_902 ?_
  refine qL_arg C (k := 2) (by decide) (by omega) hL dl_903 dl_904 dl_905 dl_906 dl_907 ?_
  refine qL_arg C (k := 3) (by decide) (by omega) hL dl_908 dl_909 dl_910 dl_911 dl_912 ?_
  refine qL_bool C dl_913 dl_916 dl_917 dl_920 ?_
  refine qL_call C (vs := [qm_i (xs (i + 1)), qm_i (xs (i + 2)), qm_i (qL_b (xs (i + 3)))]) (S := [qm_i r]) (ci := 12) (a := 62) (o := (some (qm_i r), h2)) sX12_unlike ⟨by decide, by decide⟩ jX12_unlike kl_84 uRX12 ⟨by decide, by decide, rfl⟩ iX12_unlike rfl C.2.2.2.2.2.2.2 (qL_ints _ (by intro v hv; simp only [List.mem_cons, List.not_mem_nil, or_false] at hv; rcases hv with rfl | rfl | rfl <;> exact ⟨_, rfl⟩)) rfl (qm_mp (G := qm_Gi) q2) (Nat.le_of_ble_eq_true rfl) dl_921 ?_ hcs
  show qL_W p l e s m below meth c b g cells slots i 924 [qm_i r, qm_i r] h2
  exact qL_cmp C dl_924 (tgt := 1581) (by decide) kk

