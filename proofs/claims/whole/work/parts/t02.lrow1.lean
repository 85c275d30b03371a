/-! The law: rows (written by wip/gen8.py). -/
theorem d0_472 : decode (tb_me 0).1.2.1 472 = .ok (.aload_n 0, 1) := by decide +kernel
theorem d0_473 : decode (tb_me 0).1.2.1 473 = .ok (.iload_n 3, 1) := by decide +kernel
theorem d0_474 : decode (tb_me 0).1.2.1 474 = .ok (.iconst 2, 1) := by decide +kernel
theorem d0_475 : decode (tb_me 0).1.2.1 475 = .ok (.iadd, 1) := by decide +kernel
theorem d0_476 : decode (tb_me 0).1.2.1 476 = .ok (.iaload, 1) := by decide +kernel
theorem d0_477 : decode (tb_me 0).1.2.1 477 = .ok (.ifCond .eq 7, 3) := by decide +kernel
theorem d0_480 : decode (tb_me 0).1.2.1 480 = .ok (.iconst 1, 1) := by decide +kernel
theorem d0_481 : decode (tb_me 0).1.2.1 481 = .ok (.goto 4, 3) := by decide +kernel
theorem d0_484 : decode (tb_me 0).1.2.1 484 = .ok (.iconst 0, 1) := by decide +kernel
theorem d0_485 : decode (tb_me 0).1.2.1 485 = .ok (.invokevirtual 57, 3) := by decide +kernel
theorem d0_488 : decode (tb_me 0).1.2.1 488 = .ok (.aload_n 2, 1) := by decide +kernel
theorem d0_489 : decode (tb_me 0).1.2.1 489 = .ok (.aload_n 0, 1) := by decide +kernel
theorem d0_490 : decode (tb_me 0).1.2.1 490 = .ok (.iload_n 3, 1) := by decide +kernel
theorem d0_491 : decode (tb_me 0).1.2.1 491 = .ok (.iconst 1, 1) := by decide +kernel
theorem d0_492 : decode (tb_me 0).1.2.1 492 = .ok (.iadd, 1) := by decide +kernel
theorem d0_493 : decode (tb_me 0).1.2.1 493 = .ok (.iaload, 1) := by decide +kernel
theorem d0_494 : decode (tb_me 0).1.2.1 494 = .ok (.aload_n 0, 1) := by decide +kernel
theorem d0_495 : decode (tb_me 0).1.2.1 495 = .ok (.iload_n 3, 1) := by decide +kernel
theorem d0_496 : decode (tb_me 0).1.2.1 496 = .ok (.iconst 2, 1) := by decide +kernel
theorem d0_497 : decode (tb_me 0).1.2.1 497 = .ok (.iadd, 1) := by decide +kernel
theorem d0_498 : decode (tb_me 0).1.2.1 498 = .ok (.iaload, 1) := by decide +kernel
theorem d0_499 : decode (tb_me 0).1.2.1 499 = .ok (.ifCond .eq 7, 3) := by decide +kernel
theorem d0_502 : decode (tb_me 0).1.2.1 502 = .ok (.iconst 1, 1) := by decide +kernel
theorem d0_503 : decode (tb_me 0).1.2.1 503 = .ok (.goto 4, 3) := by decide +kernel
theorem d0_506 : decode (tb_me 0).1.2.1 506 = .ok (.iconst 0, 1) := by decide +kernel
theorem d0_507 : decode (tb_me 0).1.2.1 507 = .ok (.invokevirtual 61, 3) := by decide +kernel
theorem d0_510 : decode (tb_me 0).1.2.1 510 = .ok (.if_icmp .eq 604, 3) := by decide +kernel
theorem k0_62 (b : Bool) : tb_lk b 0 62 = (2, 13, 0, 0, 0) := by cases b <;> decide +kernel
theorem k0_65 (b : Bool) : tb_lk b 0 65 = (2, 230, 0, 0, 0) := by cases b <;> decide +kernel
theorem ml13 : (tb_me 13).2 = ((0, 0), (2, 0)) ∧ (tb_me 13).1.2.2.1 = 4 := by decide +kernel
theorem ml230 : (tb_me 230).2 = ((0, 0), (2, 10)) ∧ (tb_me 230).1.2.2.1 = 4 := by decide +kernel
theorem d0_515 : decode (tb_me 0).1.2.1 515 = .ok (.aload_n 1, 1) := by decide +kernel
theorem d0_516 : decode (tb_me 0).1.2.1 516 = .ok (.aload_n 0, 1) := by decide +kernel
theorem d0_517 : decode (tb_me 0).1.2.1 517 = .ok (.iload_n 3, 1) := by decide +kernel
theorem d0_518 : decode (tb_me 0).1.2.1 518 = .ok (.iconst 1, 1) := by decide +kernel
theorem d0_519 : decode (tb_me 0).1.2.1 519 = .ok (.iadd, 1) := by decide +kernel
theorem d0_520 : decode (tb_me 0).1.2.1 520 = .ok (.iaload, 1) := by decide +kernel
theorem d0_521 : decode (tb_me 0).1.2.1 521 = .ok (.aload_n 0, 1) := by decide +kernel
theorem d0_522 : decode (tb_me 0).1.2.1 522 = .ok (.iload_n 3, 1) := by decide +kernel
theorem d0_523 : decode (tb_me 0).1.2.1 523 = .ok (.iconst 2, 1) := by decide +kernel
theorem d0_524 : decode (tb_me 0).1.2.1 524 = .ok (.iadd, 1) := by decide +kernel
theorem d0_525 : decode (tb_me 0).1.2.1 525 = .ok (.iaload, 1) := by decide +kernel
theorem d0_526 : decode (tb_me 0).1.2.1 526 = .ok (.invokevirtual 62, 3) := by decide +kernel
theorem d0_529 : decode (tb_me 0).1.2.1 529 = .ok (.aload_n 2, 1) := by decide +kernel
theorem d0_530 : decode (tb_me 0).1.2.1 530 = .ok (.aload_n 0, 1) := by decide +kernel
theorem d0_531 : decode (tb_me 0).1.2.1 531 = .ok (.iload_n 3, 1) := by decide +kernel
theorem d0_532 : decode (tb_me 0).1.2.1 532 = .ok (.iconst 1, 1) := by decide +kernel
theorem d0_533 : decode (tb_me 0).1.2.1 533 = .ok (.iadd, 1) := by decide +kernel
theorem d0_534 : decode (tb_me 0).1.2.1 534 = .ok (.iaload, 1) := by decide +kernel
theorem d0_535 : decode (tb_me 0).1.2.1 535 = .ok (.aload_n 0, 1) := by decide +kernel
theorem d0_536 : decode (tb_me 0).1.2.1 536 = .ok (.iload_n 3, 1) := by decide +kernel
theorem d0_537 : decode (tb_me 0).1.2.1 537 = .ok (.iconst 2, 1) := by decide +kernel
theorem d0_538 : decode (tb_me 0).1.2.1 538 = .ok (.iadd, 1) := by decide +kernel
theorem d0_539 : decode (tb_me 0).1.2.1 539 = .ok (.iaload, 1) := by decide +kernel
theorem d0_540 : decode (tb_me 0).1.2.1 540 = .ok (.invokevirtual 65, 3) := by decide +kernel
theorem d0_543 : decode (tb_me 0).1.2.1 543 = .ok (.if_icmp .eq 571, 3) := by decide +kernel
theorem k0_66 (b : Bool) : tb_lk b 0 66 = (2, 14, 0, 0, 0) := by cases b <;> decide +kernel
theorem k0_69 (b : Bool) : tb_lk b 0 69 = (2, 231, 0, 0, 0) := by cases b <;> decide +kernel
theorem ml14 : (tb_me 14).2 = ((0, 0), (1, 0)) ∧ (tb_me 14).1.2.2.1 = 2 := by decide +kernel
theorem ml231 : (tb_me 231).2 = ((0, 0), (1, 10)) ∧ (tb_me 231).1.2.2.1 = 2 := by decide +kernel
theorem d0_548 : decode (tb_me 0).1.2.1 548 = .ok (.aload_n 1, 1) := by decide +kernel
theorem d0_549 : decode (tb_me 0).1.2.1 549 = .ok (.aload_n 0, 1) := by decide +kernel
theorem d0_550 : decode (tb_me 0).1.2.1 550 = .ok (.iload_n 3, 1) := by decide +kernel
theorem d0_551 : decode (tb_me 0).1.2.1 551 = .ok (.iconst 1, 1) := by decide +kernel
theorem d0_552 : decode (tb_me 0).1.2.1 552 = .ok (.iadd, 1) := by decide +kernel
theorem d0_553 : decode (tb_me 0).1.2.1 553 = .ok (.iaload, 1) := by decide +kernel
theorem d0_554 : decode (tb_me 0).1.2.1 554 = .ok (.invokevirtual 66, 3) := by decide +kernel
theorem d0_557 : decode (tb_me 0).1.2.1 557 = .ok (.aload_n 2, 1) := by decide +kernel
theorem d0_558 : decode (tb_me 0).1.2.1 558 = .ok (.aload_n 0, 1) := by decide +kernel
theorem d0_559 : decode (tb_me 0).1.2.1 559 = .ok (.iload_n 3, 1) := by decide +kernel
theorem d0_560 : decode (tb_me 0).1.2.1 560 = .ok (.iconst 1, 1) := by decide +kernel
theorem d0_561 : decode (tb_me 0).1.2.1 561 = .ok (.iadd, 1) := by decide +kernel
theorem d0_562 : decode (tb_me 0).1.2.1 562 = .ok (.iaload, 1) := by decide +kernel
theorem d0_563 : decode (tb_me 0).1.2.1 563 = .ok (.invokevirtual 69, 3) := by decide +kernel
theorem d0_566 : decode (tb_me 0).1.2.1 566 = .ok (.if_icmp .eq 548, 3) := by decide +kernel
theorem k0_70 (b : Bool) : tb_lk b 0 70 = (2, 15, 0, 0, 0) := by cases b <;> decide +kernel
theorem k0_73 (b : Bool) : tb_lk b 0 73 = (2, 232, 0, 0, 0) := by cases b <;> decide +kernel
theorem ml15 : (tb_me 15).2 = ((0, 0), (1, 0)) ∧ (tb_me 15).1.2.2.1 = 3 := by decide +kernel
theorem ml232 : (tb_me 232).2 = ((0, 0), (1, 10)) ∧ (tb_me 232).1.2.2.1 = 3 := by decide +kernel
theorem d0_571 : decode (tb_me 0).1.2.1 571 = .ok (.aload_n 1, 1) := by decide +kernel
theorem d0_572 : decode (tb_me 0).1.2.1 572 = .ok (.aload_n 0, 1) := by decide +kernel
theorem d0_573 : decode (tb_me 0).1.2.1 573 = .ok (.iload_n 3, 1) := by decide +kernel
theorem d0_574 : decode (tb_me 0).1.2.1 574 = .ok (.iconst 1, 1) := by decide +kernel
theorem d0_575 : decode (tb_me 0).1.2.1 575 = .ok (.iadd, 1) := by decide +kernel
theorem d0_576 : decode (tb_me 0).1.2.1 576 = .ok (.iaload, 1) := by decide +kernel
theorem d0_577 : decode (tb_me 0).1.2.1 577 = .ok (.invokevirtual 70, 3) := by decide +kernel
theorem d0_580 : decode (tb_me 0).1.2.1 580 = .ok (.aload_n 2, 1) := by decide +kernel
theorem d0_581 : decode (tb_me 0).1.2.1 581 = .ok (.aload_n 0, 1) := by decide +kernel
theorem d0_582 : decode (tb_me 0).1.2.1 582 = .ok (.iload_n 3, 1) := by decide +kernel
theorem d0_583 : decode (tb_me 0).1.2.1 583 = .ok (.iconst 1, 1) := by decide +kernel
theorem d0_584 : decode (tb_me 0).1.2.1 584 = .ok (.iadd, 1) := by decide +kernel
theorem d0_585 : decode (tb_me 0).1.2.1 585 = .ok (.iaload, 1) := by decide +kernel
theorem d0_586 : decode (tb_me 0).1.2.1 586 = .ok (.invokevirtual 73, 3) := by decide +kernel
theorem d0_589 : decode (tb_me 0).1.2.1 589 = .ok (.if_icmp .eq 525, 3) := by decide +kernel
theorem k0_74 (b : Bool) : tb_lk b 0 74 = (2, 16, 0, 0, 0) := by cases b <;> decide +kernel
theorem k0_77 (b : Bool) : tb_lk b 0 77 = (2, 233, 0, 0, 0) := by cases b <;> decide +kernel
theorem ml16 : (tb_me 16).2 = ((0, 0), (1, 0)) ∧ (tb_me 16).1.2.2.1 = 3 := by decide +kernel
theorem ml233 : (tb_me 233).2 = ((0, 0), (1, 10)) ∧ (tb_me 233).1.2.2.1 = 3 := by decide +kernel
theorem d0_594 : decode (tb_me 0).1.2.1 594 = .ok (.aload_n 1, 1) := by decide +kernel
theorem d0_595 : decode (tb_me 0).1.2.1 595 = .ok (.aload_n 0, 1) := by decide +kernel
theorem d0_596 : decode (tb_me 0).1.2.1 596 = .ok (.iload_n 3, 1) := by decide +kernel
theorem d0_597 : decode (tb_me 0).1.2.1 597 = .ok (.iconst 1, 1) := by decide +kernel
theorem d0_598 : decode (tb_me 0).1.2.1 598 = .ok (.iadd, 1) := by decide +kernel
theorem d0_599 : decode (tb_me 0).1.2.1 599 = .ok (.iaload, 1) := by decide +kernel
theorem d0_600 : decode (tb_me 0).1.2.1 600 = .ok (.invokevirtual 74, 3) := by decide +kernel
theorem d0_603 : decode (tb_me 0).1.2.1 603 = .ok (.aload_n 2, 1) := by decide +kernel
theorem d0_604 : decode (tb_me 0).1.2.1 604 = .ok (.aload_n 0, 1) := by decide +kernel
theorem d0_605 : decode (tb_me 0).1.2.1 605 = .ok (.iload_n 3, 1) := by decide +kernel
theorem d0_606 : decode (tb_me 0).1.2.1 606 = .ok (.iconst 1, 1) := by decide +kernel
theorem d0_607 : decode (tb_me 0).1.2.1 607 = .ok (.iadd, 1) := by decide +kernel
theorem d0_608 : decode (tb_me 0).1.2.1 608 = .ok (.iaload, 1) := by decide +kernel
theorem d0_609 : decode (tb_me 0).1.2.1 609 = .ok (.invokevirtual 77, 3) := by decide +kernel
theorem d0_612 : decode (tb_me 0).1.2.1 612 = .ok (.if_icmp .eq 502, 3) := by decide +kernel
theorem k0_78 (b : Bool) : tb_lk b 0 78 = (2, 17, 0, 0, 0) := by cases b <;> decide +kernel
theorem k0_81 (b : Bool) : tb_lk b 0 81 = (2, 225, 0, 0, 0) := by cases b <;> decide +kernel
theorem ml17 : (tb_me 17).2 = ((0, 0), (0, 0)) ∧ (tb_me 17).1.2.2.1 = 1 := by decide +kernel
theorem ml225 : (tb_me 225).2 = ((0, 0), (0, 10)) ∧ (tb_me 225).1.2.2.1 = 2 := by decide +kernel
theorem d0_617 : decode (tb_me 0).1.2.1 617 = .ok (.aload_n 1, 1) := by decide +kernel
theorem d0_618 : decode (tb_me 0).1.2.1 618 = .ok (.invokevirtual 78, 3) := by decide +kernel
theorem d0_621 : decode (tb_me 0).1.2.1 621 = .ok (.aload_n 2, 1) := by decide +kernel
theorem d0_622 : decode (tb_me 0).1.2.1 622 = .ok (.invokevirtual 81, 3) := by decide +kernel
theorem d0_625 : decode (tb_me 0).1.2.1 625 = .ok (.if_icmp .eq 489, 3) := by decide +kernel
theorem k0_82 (b : Bool) : tb_lk b 0 82 = (2, 18, 0, 0, 0) := by cases b <;> decide +kernel
theorem k0_85 (b : Bool) : tb_lk b 0 85 = (2, 237, 0, 0, 0) := by cases b <;> decide +kernel
theorem ml18 : (tb_me 18).2 = ((0, 0), (2, 0)) ∧ (tb_me 18).1.2.2.1 = 4 := by decide +kernel
theorem ml237 : (tb_me 237).2 = ((0, 0), (2, 10)) ∧ (tb_me 237).1.2.2.1 = 5 := by decide +kernel
theorem d0_630 : decode (tb_me 0).1.2.1 630 = .ok (.aload_n 1, 1) := by decide +kernel
theorem d0_631 : decode (tb_me 0).1.2.1 631 = .ok (.aload_n 0, 1) := by decide +kernel
theorem d0_632 : decode (tb_me 0).1.2.1 632 = .ok (.iload_n 3, 1) := by decide +kernel
theorem d0_633 : decode (tb_me 0).1.2.1 633 = .ok (.iconst 1, 1) := by decide +kernel
theorem d0_634 : decode (tb_me 0).1.2.1 634 = .ok (.iadd, 1) := by decide +kernel
theorem d0_635 : decode (tb_me 0).1.2.1 635 = .ok (.iaload, 1) := by decide +kernel
theorem d0_636 : decode (tb_me 0).1.2.1 636 = .ok (.aload_n 0, 1) := by decide +kernel
theorem d0_637 : decode (tb_me 0).1.2.1 637 = .ok (.iload_n 3, 1) := by decide +kernel
theorem d0_638 : decode (tb_me 0).1.2.1 638 = .ok (.iconst 2, 1) := by decide +kernel
theorem d0_639 : decode (tb_me 0).1.2.1 639 = .ok (.iadd, 1) := by decide +kernel
theorem d0_640 : decode (tb_me 0).1.2.1 640 = .ok (.iaload, 1) := by decide +kernel
theorem d0_641 : decode (tb_me 0).1.2.1 641 = .ok (.invokevirtual 82, 3) := by decide +kernel
theorem d0_644 : decode (tb_me 0).1.2.1 644 = .ok (.aload_n 2, 1) := by decide +kernel
theorem d0_645 : decode (tb_me 0).1.2.1 645 = .ok (.aload_n 0, 1) := by decide +kernel
theorem d0_646 : decode (tb_me 0).1.2.1 646 = .ok (.iload_n 3, 1) := by decide +kernel
theorem d0_647 : decode (tb_me 0).1.2.1 647 = .ok (.iconst 1, 1) := by decide +kernel
theorem d0_648 : decode (tb_me 0).1.2.1 648 = .ok (.iadd, 1) := by decide +kernel
theorem d0_649 : decode (tb_me 0).1.2.1 649 = .ok (.iaload, 1) := by decide +kernel
theorem d0_650 : decode (tb_me 0).1.2.1 650 = .ok (.aload_n 0, 1) := by decide +kernel
theorem d0_651 : decode (tb_me 0).1.2.1 651 = .ok (.iload_n 3, 1) := by decide +kernel
theorem d0_652 : decode (tb_me 0).1.2.1 652 = .ok (.iconst 2, 1) := by decide +kernel
theorem d0_653 : decode (tb_me 0).1.2.1 653 = .ok (.iadd, 1) := by decide +kernel
theorem d0_654 : decode (tb_me 0).1.2.1 654 = .ok (.iaload, 1) := by decide +kernel
theorem d0_655 : decode (tb_me 0).1.2.1 655 = .ok (.invokevirtual 85, 3) := by decide +kernel
theorem d0_658 : decode (tb_me 0).1.2.1 658 = .ok (.if_icmp .eq 456, 3) := by decide +kernel
theorem k0_86 (b : Bool) : tb_lk b 0 86 = (2, 19, 0, 0, 0) := by cases b <;> decide +kernel
theorem k0_89 (b : Bool) : tb_lk b 0 89 = (2, 238, 0, 0, 0) := by cases b <;> decide +kernel
theorem ml19 : (tb_me 19).2 = ((0, 0), (0, 0)) ∧ (tb_me 19).1.2.2.1 = 1 := by decide +kernel
theorem ml238 : (tb_me 238).2 = ((0, 0), (0, 10)) ∧ (tb_me 238).1.2.2.1 = 1 := by decide +kernel
theorem d0_663 : decode (tb_me 0).1.2.1 663 = .ok (.aload_n 1, 1) := by decide +kernel
theorem d0_664 : decode (tb_me 0).1.2.1 664 = .ok (.invokevirtual 86, 3) := by decide +kernel
theorem d0_667 : decode (tb_me 0).1.2.1 667 = .ok (.aload_n 2, 1) := by decide +kernel
theorem d0_668 : decode (tb_me 0).1.2.1 668 = .ok (.invokevirtual 89, 3) := by decide +kernel
theorem d0_671 : decode (tb_me 0).1.2.1 671 = .ok (.if_icmp .eq 443, 3) := by decide +kernel
theorem k0_90 (b : Bool) : tb_lk b 0 90 = (2, 20, 0, 0, 0) := by cases b <;> decide +kernel
theorem k0_93 (b : Bool) : tb_lk b 0 93 = (2, 239, 0, 0, 0) := by cases b <;> decide +kernel
theorem ml20 : (tb_me 20).2 = ((0, 0), (2, 0)) ∧ (tb_me 20).1.2.2.1 = 3 := by decide +kernel
theorem ml239 : (tb_me 239).2 = ((0, 0), (2, 10)) ∧ (tb_me 239).1.2.2.1 = 4 := by decide +kernel
theorem d0_676 : decode (tb_me 0).1.2.1 676 = .ok (.aload_n 1, 1) := by decide +kernel
theorem d0_677 : decode (tb_me 0).1.2.1 677 = .ok (.aload_n 0, 1) := by decide +kernel
theorem d0_678 : decode (tb_me 0).1.2.1 678 = .ok (.iload_n 3, 1) := by decide +kernel
theorem d0_679 : decode (tb_me 0).1.2.1 679 = .ok (.iconst 1, 1) := by decide +kernel
theorem d0_680 : decode (tb_me 0).1.2.1 680 = .ok (.iadd, 1) := by decide +kernel
theorem d0_681 : decode (tb_me 0).1.2.1 681 = .ok (.iaload, 1) := by decide +kernel
theorem d0_682 : decode (tb_me 0).1.2.1 682 = .ok (.aload_n 0, 1) := by decide +kernel
theorem d0_683 : decode (tb_me 0).1.2.1 683 = .ok (.iload_n 3, 1) := by decide +kernel
theorem d0_684 : decode (tb_me 0).1.2.1 684 = .ok (.iconst 2, 1) := by decide +kernel
theorem d0_685 : decode (tb_me 0).1.2.1 685 = .ok (.iadd, 1) := by decide +kernel
theorem d0_686 : decode (tb_me 0).1.2.1 686 = .ok (.iaload, 1) := by decide +kernel
theorem d0_687 : decode (tb_me 0).1.2.1 687 = .ok (.invokevirtual 90, 3) := by decide +kernel
theorem d0_690 : decode (tb_me 0).1.2.1 690 = .ok (.aload_n 2, 1) := by decide +kernel
theorem d0_691 : decode (tb_me 0).1.2.1 691 = .ok (.aload_n 0, 1) := by decide +kernel
theorem d0_692 : decode (tb_me 0).1.2.1 692 = .ok (.iload_n 3, 1) := by decide +kernel
theorem d0_693 : decode (tb_me 0).1.2.1 693 = .ok (.iconst 1, 1) := by decide +kernel
theorem d0_694 : decode (tb_me 0).1.2.1 694 = .ok (.iadd, 1) := by decide +kernel
theorem d0_695 : decode (tb_me 0).1.2.1 695 = .ok (.iaload, 1) := by decide +kernel
theorem d0_696 : decode (tb_me 0).1.2.1 696 = .ok (.aload_n 0, 1) := by decide +kernel
theorem d0_697 : decode (tb_me 0).1.2.1 697 = .ok (.iload_n 3, 1) := by decide +kernel
theorem d0_698 : decode (tb_me 0).1.2.1 698 = .ok (.iconst 2, 1) := by decide +kernel
theorem d0_699 : decode (tb_me 0).1.2.1 699 = .ok (.iadd, 1) := by decide +kernel
theorem d0_700 : decode (tb_me 0).1.2.1 700 = .ok (.iaload, 1) := by decide +kernel
theorem d0_701 : decode (tb_me 0).1.2.1 701 = .ok (.invokevirtual 93, 3) := by decide +kernel
theorem d0_704 : decode (tb_me 0).1.2.1 704 = .ok (.if_icmp .eq 410, 3) := by decide +kernel
theorem k0_94 (b : Bool) : tb_lk b 0 94 = (2, 21, 0, 0, 0) := by cases b <;> decide +kernel
theorem k0_97 (b : Bool) : tb_lk b 0 97 = (2, 240, 0, 0, 0) := by cases b <;> decide +kernel
theorem ml21 : (tb_me 21).2 = ((0, 0), (2, 0)) ∧ (tb_me 21).1.2.2.1 = 4 := by decide +kernel
theorem ml240 : (tb_me 240).2 = ((0, 0), (2, 10)) ∧ (tb_me 240).1.2.2.1 = 7 := by decide +kernel
theorem d0_709 : decode (tb_me 0).1.2.1 709 = .ok (.aload_n 1, 1) := by decide +kernel
theorem d0_710 : decode (tb_me 0).1.2.1 710 = .ok (.aload_n 0, 1) := by decide +kernel
theorem d0_711 : decode (tb_me 0).1.2.1 711 = .ok (.iload_n 3, 1) := by decide +kernel
theorem d0_712 : decode (tb_me 0).1.2.1 712 = .ok (.iconst 1, 1) := by decide +kernel
theorem d0_713 : decode (tb_me 0).1.2.1 713 = .ok (.iadd, 1) := by decide +kernel
theorem d0_714 : decode (tb_me 0).1.2.1 714 = .ok (.iaload, 1) := by decide +kernel
theorem d0_715 : decode (tb_me 0).1.2.1 715 = .ok (.aload_n 0, 1) := by decide +kernel
theorem d0_716 : decode (tb_me 0).1.2.1 716 = .ok (.iload_n 3, 1) := by decide +kernel
theorem d0_717 : decode (tb_me 0).1.2.1 717 = .ok (.iconst 2, 1) := by decide +kernel
theorem d0_718 : decode (tb_me 0).1.2.1 718 = .ok (.iadd, 1) := by decide +kernel
theorem d0_719 : decode (tb_me 0).1.2.1 719 = .ok (.iaload, 1) := by decide +kernel
theorem d0_720 : decode (tb_me 0).1.2.1 720 = .ok (.invokevirtual 94, 3) := by decide +kernel
theorem d0_723 : decode (tb_me 0).1.2.1 723 = .ok (.aload_n 2, 1) := by decide +kernel
theorem d0_724 : decode (tb_me 0).1.2.1 724 = .ok (.aload_n 0, 1) := by decide +kernel
theorem d0_725 : decode (tb_me 0).1.2.1 725 = .ok (.iload_n 3, 1) := by decide +kernel
theorem d0_726 : decode (tb_me 0).1.2.1 726 = .ok (.iconst 1, 1) := by decide +kernel
theorem d0_727 : decode (tb_me 0).1.2.1 727 = .ok (.iadd, 1) := by decide +kernel
theorem d0_728 : decode (tb_me 0).1.2.1 728 = .ok (.iaload, 1) := by decide +kernel
theorem d0_729 : decode (tb_me 0).1.2.1 729 = .ok (.aload_n 0, 1) := by decide +kernel
theorem d0_730 : decode (tb_me 0).1.2.1 730 = .ok (.iload_n 3, 1) := by decide +kernel
theorem d0_731 : decode (tb_me 0).1.2.1 731 = .ok (.iconst 2, 1) := by decide +kernel
theorem d0_732 : decode (tb_me 0).1.2.1 732 = .ok (.iadd, 1) := by decide +kernel
theorem d0_733 : decode (tb_me 0).1.2.1 733 = .ok (.iaload, 1) := by decide +kernel
theorem d0_734 : decode (tb_me 0).1.2.1 734 = .ok (.invokevirtual 97, 3) := by decide +kernel
theorem d0_737 : decode (tb_me 0).1.2.1 737 = .ok (.if_icmp .eq 377, 3) := by decide +kernel
theorem k0_98 (b : Bool) : tb_lk b 0 98 = (2, 22, 0, 0, 0) := by cases b <;> decide +kernel
theorem k0_101 (b : Bool) : tb_lk b 0 101 = (2, 241, 0, 0, 0) := by cases b <;> decide +kernel
theorem ml22 : (tb_me 22).2 = ((0, 0), (2, 0)) ∧ (tb_me 22).1.2.2.1 = 4 := by decide +kernel
theorem ml241 : (tb_me 241).2 = ((0, 0), (2, 10)) ∧ (tb_me 241).1.2.2.1 = 7 := by decide +kernel
theorem d0_742 : decode (tb_me 0).1.2.1 742 = .ok (.aload_n 1, 1) := by decide +kernel
theorem d0_743 : decode (tb_me 0).1.2.1 743 = .ok (.aload_n 0, 1) := by decide +kernel
theorem d0_744 : decode (tb_me 0).1.2.1 744 = .ok (.iload_n 3, 1) := by decide +kernel
theorem d0_745 : decode (tb_me 0).1.2.1 745 = .ok (.iconst 1, 1) := by decide +kernel
theorem d0_746 : decode (tb_me 0).1.2.1 746 = .ok (.iadd, 1) := by decide +kernel
theorem d0_747 : decode (tb_me 0).1.2.1 747 = .ok (.iaload, 1) := by decide +kernel
theorem d0_748 : decode (tb_me 0).1.2.1 748 = .ok (.aload_n 0, 1) := by decide +kernel
theorem d0_749 : decode (tb_me 0).1.2.1 749 = .ok (.iload_n 3, 1) := by decide +kernel
theorem d0_750 : decode (tb_me 0).1.2.1 750 = .ok (.iconst 2, 1) := by decide +kernel
theorem d0_751 : decode (tb_me 0).1.2.1 751 = .ok (.iadd, 1) := by decide +kernel
theorem d0_752 : decode (tb_me 0).1.2.1 752 = .ok (.iaload, 1) := by decide +kernel
theorem d0_753 : decode (tb_me 0).1.2.1 753 = .ok (.invokevirtual 98, 3) := by decide +kernel
theorem d0_756 : decode (tb_me 0).1.2.1 756 = .ok (.aload_n 2, 1) := by decide +kernel
theorem d0_757 : decode (tb_me 0).1.2.1 757 = .ok (.aload_n 0, 1) := by decide +kernel
theorem d0_758 : decode (tb_me 0).1.2.1 758 = .ok (.iload_n 3, 1) := by decide +kernel
theorem d0_759 : decode (tb_me 0).1.2.1 759 = .ok (.iconst 1, 1) := by decide +kernel
theorem d0_760 : decode (tb_me 0).1.2.1 760 = .ok (.iadd, 1) := by decide +kernel
theorem d0_761 : decode (tb_me 0).1.2.1 761 = .ok (.iaload, 1) := by decide +kernel
theorem d0_762 : decode (tb_me 0).1.2.1 762 = .ok (.aload_n 0, 1) := by decide +kernel
theorem d0_763 : decode (tb_me 0).1.2.1 763 = .ok (.iload_n 3, 1) := by decide +kernel
theorem d0_764 : decode (tb_me 0).1.2.1 764 = .ok (.iconst 2, 1) := by decide +kernel
theorem d0_765 : decode (tb_me 0).1.2.1 765 = .ok (.iadd, 1) := by decide +kernel
theorem d0_766 : decode (tb_me 0).1.2.1 766 = .ok (.iaload, 1) := by decide +kernel
theorem d0_767 : decode (tb_me 0).1.2.1 767 = .ok (.invokevirtual 101, 3) := by decide +kernel
theorem d0_770 : decode (tb_me 0).1.2.1 770 = .ok (.if_icmp .eq 344, 3) := by decide +kernel
theorem k0_102 (b : Bool) : tb_lk b 0 102 = (2, 23, 0, 0, 0) := by cases b <;> decide +kernel
theorem k0_105 (b : Bool) : tb_lk b 0 105 = (2, 242, 0, 0, 0) := by cases b <;> decide +kernel
theorem ml23 : (tb_me 23).2 = ((0, 0), (1, 0)) ∧ (tb_me 23).1.2.2.1 = 3 := by decide +kernel
theorem ml242 : (tb_me 242).2 = ((0, 0), (1, 10)) ∧ (tb_me 242).1.2.2.1 = 7 := by decide +kernel
theorem d0_775 : decode (tb_me 0).1.2.1 775 = .ok (.aload_n 1, 1) := by decide +kernel
theorem d0_776 : decode (tb_me 0).1.2.1 776 = .ok (.aload_n 0, 1) := by decide +kernel
theorem d0_777 : decode (tb_me 0).1.2.1 777 = .ok (.iload_n 3, 1) := by decide +kernel
theorem d0_778 : decode (tb_me 0).1.2.1 778 = .ok (.iconst 1, 1) := by decide +kernel
theorem d0_779 : decode (tb_me 0).1.2.1 779 = .ok (.iadd, 1) := by decide +kernel
theorem d0_780 : decode (tb_me 0).1.2.1 780 = .ok (.iaload, 1) := by decide +kernel
theorem d0_781 : decode (tb_me 0).1.2.1 781 = .ok (.invokevirtual 102, 3) := by decide +kernel
theorem d0_784 : decode (tb_me 0).1.2.1 784 = .ok (.aload_n 2, 1) := by decide +kernel
theorem d0_785 : decode (tb_me 0).1.2.1 785 = .ok (.aload_n 0, 1) := by decide +kernel
