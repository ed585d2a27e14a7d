theorem dL_acts_463 : decode cL_acts 463 = .ok (.getfield 121, 3) := by decide +kernel
theorem dL_acts_466 : decode cL_acts 466 = .ok (.iload 8, 2) := by decide +kernel
theorem dL_acts_468 : decode cL_acts 468 = .ok (.aaload, 1) := by decide +kernel
theorem dL_acts_469 : decode cL_acts 469 = .ok (.iload 9, 2) := by decide +kernel
theorem dL_acts_471 : decode cL_acts 471 = .ok (.iload 10, 2) := by decide +kernel
theorem dL_acts_473 : decode cL_acts 473 = .ok (.iadd, 1) := by decide +kernel
theorem dL_acts_474 : decode cL_acts 474 = .ok (.aaload, 1) := by decide +kernel
theorem dL_acts_475 : decode cL_acts 475 = .ok (.iload 11, 2) := by decide +kernel
theorem dL_acts_477 : decode cL_acts 477 = .ok (.iaload, 1) := by decide +kernel
theorem dL_acts_478 : decode cL_acts 478 = .ok (.istore 13, 2) := by decide +kernel
theorem dL_acts_480 : decode cL_acts 480 = .ok (.aload_n 1, 1) := by decide +kernel
theorem dL_acts_481 : decode cL_acts 481 = .ok (.getfield 121, 3) := by decide +kernel
theorem dL_acts_484 : decode cL_acts 484 = .ok (.iload 8, 2) := by decide +kernel
theorem dL_acts_486 : decode cL_acts 486 = .ok (.aaload, 1) := by decide +kernel
theorem dL_acts_487 : decode cL_acts 487 = .ok (.iload 9, 2) := by decide +kernel
theorem dL_acts_489 : decode cL_acts 489 = .ok (.iload 10, 2) := by decide +kernel
theorem dL_acts_491 : decode cL_acts 491 = .ok (.iadd, 1) := by decide +kernel
theorem dL_acts_492 : decode cL_acts 492 = .ok (.aaload, 1) := by decide +kernel
theorem dL_acts_493 : decode cL_acts 493 = .ok (.iload 11, 2) := by decide +kernel
theorem dL_acts_495 : decode cL_acts 495 = .ok (.iload 12, 2) := by decide +kernel
theorem dL_acts_497 : decode cL_acts 497 = .ok (.iastore, 1) := by decide +kernel
theorem dL_acts_498 : decode cL_acts 498 = .ok (.aload_n 0, 1) := by decide +kernel
theorem dL_acts_499 : decode cL_acts 499 = .ok (.iload 6, 2) := by decide +kernel
theorem dL_acts_501 : decode cL_acts 501 = .ok (.iload 8, 2) := by decide +kernel
theorem dL_acts_503 : decode cL_acts 503 = .ok (.iconst 1, 1) := by decide +kernel
theorem dL_acts_504 : decode cL_acts 504 = .ok (.if_icmp .ne 7, 3) := by decide +kernel
theorem dL_acts_507 : decode cL_acts 507 = .ok (.iconst 1, 1) := by decide +kernel
theorem dL_acts_508 : decode cL_acts 508 = .ok (.goto 4, 3) := by decide +kernel
theorem dL_acts_511 : decode cL_acts 511 = .ok (.iconst 0, 1) := by decide +kernel
theorem dL_acts_512 : decode cL_acts 512 = .ok (.iload 10, 2) := by decide +kernel
theorem dL_acts_514 : decode cL_acts 514 = .ok (.iload 11, 2) := by decide +kernel
theorem dL_acts_516 : decode cL_acts 516 = .ok (.iload 12, 2) := by decide +kernel
theorem dL_acts_518 : decode cL_acts 518 = .ok (.invokevirtual 159, 3) := by decide +kernel
theorem dL_acts_521 : decode cL_acts 521 = .ok (.iload 13, 2) := by decide +kernel
theorem dL_acts_523 : decode cL_acts 523 = .ok (.if_icmp .ne 7, 3) := by decide +kernel
theorem dL_acts_526 : decode cL_acts 526 = .ok (.iconst 1, 1) := by decide +kernel
theorem dL_acts_527 : decode cL_acts 527 = .ok (.goto 4, 3) := by decide +kernel
theorem dL_acts_530 : decode cL_acts 530 = .ok (.iconst 0, 1) := by decide +kernel
theorem dL_acts_531 : decode cL_acts 531 = .ok (.ireturn, 1) := by decide +kernel
theorem dL_acts_532 : decode cL_acts 532 = .ok (.iload 5, 2) := by decide +kernel
theorem dL_acts_534 : decode cL_acts 534 = .ok (.bipush 8, 2) := by decide +kernel
theorem dL_acts_536 : decode cL_acts 536 = .ok (.if_icmp .ne 160, 3) := by decide +kernel
theorem dL_acts_539 : decode cL_acts 539 = .ok (.iconst 0, 1) := by decide +kernel
theorem dL_acts_540 : decode cL_acts 540 = .ok (.istore 13, 2) := by decide +kernel
theorem dL_acts_542 : decode cL_acts 542 = .ok (.iload 9, 2) := by decide +kernel
theorem dL_acts_544 : decode cL_acts 544 = .ok (.istore 14, 2) := by decide +kernel
theorem dL_acts_546 : decode cL_acts 546 = .ok (.iload 14, 2) := by decide +kernel
theorem dL_acts_548 : decode cL_acts 548 = .ok (.iload 9, 2) := by decide +kernel
theorem dL_acts_550 : decode cL_acts 550 = .ok (.aload 7, 2) := by decide +kernel
theorem dL_acts_552 : decode cL_acts 552 = .ok (.iconst 0, 1) := by decide +kernel
theorem dL_acts_553 : decode cL_acts 553 = .ok (.iaload, 1) := by decide +kernel
theorem dL_acts_554 : decode cL_acts 554 = .ok (.iadd, 1) := by decide +kernel
theorem dL_acts_555 : decode cL_acts 555 = .ok (.if_icmp .ge 104, 3) := by decide +kernel
theorem dL_acts_558 : decode cL_acts 558 = .ok (.iconst 0, 1) := by decide +kernel
theorem dL_acts_559 : decode cL_acts 559 = .ok (.istore 15, 2) := by decide +kernel
theorem dL_acts_561 : decode cL_acts 561 = .ok (.iload 15, 2) := by decide +kernel
theorem dL_acts_563 : decode cL_acts 563 = .ok (.aload_n 1, 1) := by decide +kernel
theorem dL_acts_564 : decode cL_acts 564 = .ok (.getfield 113, 3) := by decide +kernel
theorem dL_acts_567 : decode cL_acts 567 = .ok (.if_icmp .ge 46, 3) := by decide +kernel
theorem dL_acts_570 : decode cL_acts 570 = .ok (.iload 13, 2) := by decide +kernel
theorem dL_acts_572 : decode cL_acts 572 = .ok (.aload_n 1, 1) := by decide +kernel
theorem dL_acts_573 : decode cL_acts 573 = .ok (.getfield 121, 3) := by decide +kernel
theorem dL_acts_576 : decode cL_acts 576 = .ok (.iconst 0, 1) := by decide +kernel
theorem dL_acts_577 : decode cL_acts 577 = .ok (.aaload, 1) := by decide +kernel
theorem dL_acts_578 : decode cL_acts 578 = .ok (.iload 14, 2) := by decide +kernel
theorem dL_acts_580 : decode cL_acts 580 = .ok (.aaload, 1) := by decide +kernel
theorem dL_acts_581 : decode cL_acts 581 = .ok (.iload 15, 2) := by decide +kernel
theorem dL_acts_583 : decode cL_acts 583 = .ok (.iaload, 1) := by decide +kernel
theorem dL_acts_584 : decode cL_acts 584 = .ok (.aload_n 1, 1) := by decide +kernel
theorem dL_acts_585 : decode cL_acts 585 = .ok (.getfield 121, 3) := by decide +kernel
theorem dL_acts_588 : decode cL_acts 588 = .ok (.iconst 1, 1) := by decide +kernel
theorem dL_acts_589 : decode cL_acts 589 = .ok (.aaload, 1) := by decide +kernel
theorem dL_acts_590 : decode cL_acts 590 = .ok (.iload 14, 2) := by decide +kernel
theorem dL_acts_592 : decode cL_acts 592 = .ok (.aaload, 1) := by decide +kernel
theorem dL_acts_593 : decode cL_acts 593 = .ok (.iload 15, 2) := by decide +kernel
theorem dL_acts_595 : decode cL_acts 595 = .ok (.iaload, 1) := by decide +kernel
theorem dL_acts_596 : decode cL_acts 596 = .ok (.if_icmp .ne 7, 3) := by decide +kernel
theorem dL_acts_599 : decode cL_acts 599 = .ok (.iconst 0, 1) := by decide +kernel
theorem dL_acts_600 : decode cL_acts 600 = .ok (.goto 4, 3) := by decide +kernel
theorem dL_acts_603 : decode cL_acts 603 = .ok (.iconst 1, 1) := by decide +kernel
theorem dL_acts_604 : decode cL_acts 604 = .ok (.iadd, 1) := by decide +kernel
theorem dL_acts_605 : decode cL_acts 605 = .ok (.istore 13, 2) := by decide +kernel
theorem dL_acts_607 : decode cL_acts 607 = .ok (.iinc 15 1, 3) := by decide +kernel
theorem dL_acts_610 : decode cL_acts 610 = .ok (.goto (-49), 3) := by decide +kernel
theorem dL_acts_613 : decode cL_acts 613 = .ok (.aload_n 1, 1) := by decide +kernel
theorem dL_acts_614 : decode cL_acts 614 = .ok (.getfield 121, 3) := by decide +kernel
theorem dL_acts_617 : decode cL_acts 617 = .ok (.iconst 0, 1) := by decide +kernel
theorem dL_acts_618 : decode cL_acts 618 = .ok (.aaload, 1) := by decide +kernel
theorem dL_acts_619 : decode cL_acts 619 = .ok (.iload 14, 2) := by decide +kernel
theorem dL_acts_621 : decode cL_acts 621 = .ok (.aaload, 1) := by decide +kernel
theorem dL_acts_622 : decode cL_acts 622 = .ok (.astore 15, 2) := by decide +kernel
theorem dL_acts_624 : decode cL_acts 624 = .ok (.aload_n 1, 1) := by decide +kernel
theorem dL_acts_625 : decode cL_acts 625 = .ok (.getfield 121, 3) := by decide +kernel
theorem dL_acts_628 : decode cL_acts 628 = .ok (.iconst 0, 1) := by decide +kernel
theorem dL_acts_629 : decode cL_acts 629 = .ok (.aaload, 1) := by decide +kernel
theorem dL_acts_630 : decode cL_acts 630 = .ok (.iload 14, 2) := by decide +kernel
theorem dL_acts_632 : decode cL_acts 632 = .ok (.aload_n 1, 1) := by decide +kernel
theorem dL_acts_633 : decode cL_acts 633 = .ok (.getfield 121, 3) := by decide +kernel
theorem dL_acts_636 : decode cL_acts 636 = .ok (.iconst 1, 1) := by decide +kernel
theorem dL_acts_637 : decode cL_acts 637 = .ok (.aaload, 1) := by decide +kernel
theorem dL_acts_638 : decode cL_acts 638 = .ok (.iload 14, 2) := by decide +kernel
theorem dL_acts_640 : decode cL_acts 640 = .ok (.aaload, 1) := by decide +kernel
theorem dL_acts_641 : decode cL_acts 641 = .ok (.aastore, 1) := by decide +kernel
theorem dL_acts_642 : decode cL_acts 642 = .ok (.aload_n 1, 1) := by decide +kernel
theorem dL_acts_643 : decode cL_acts 643 = .ok (.getfield 121, 3) := by decide +kernel
theorem dL_acts_646 : decode cL_acts 646 = .ok (.iconst 1, 1) := by decide +kernel
theorem dL_acts_647 : decode cL_acts 647 = .ok (.aaload, 1) := by decide +kernel
theorem dL_acts_648 : decode cL_acts 648 = .ok (.iload 14, 2) := by decide +kernel
theorem dL_acts_650 : decode cL_acts 650 = .ok (.aload 15, 2) := by decide +kernel
theorem dL_acts_652 : decode cL_acts 652 = .ok (.aastore, 1) := by decide +kernel
theorem dL_acts_653 : decode cL_acts 653 = .ok (.iinc 14 1, 3) := by decide +kernel
theorem dL_acts_656 : decode cL_acts 656 = .ok (.goto (-110), 3) := by decide +kernel
theorem dL_acts_659 : decode cL_acts 659 = .ok (.aload 7, 2) := by decide +kernel
theorem dL_acts_661 : decode cL_acts 661 = .ok (.iconst 3, 1) := by decide +kernel
theorem dL_acts_662 : decode cL_acts 662 = .ok (.iaload, 1) := by decide +kernel
theorem dL_acts_663 : decode cL_acts 663 = .ok (.istore 14, 2) := by decide +kernel
theorem dL_acts_665 : decode cL_acts 665 = .ok (.aload 7, 2) := by decide +kernel
theorem dL_acts_667 : decode cL_acts 667 = .ok (.iconst 3, 1) := by decide +kernel
theorem dL_acts_668 : decode cL_acts 668 = .ok (.aload 7, 2) := by decide +kernel
theorem dL_acts_670 : decode cL_acts 670 = .ok (.iconst 4, 1) := by decide +kernel
theorem dL_acts_671 : decode cL_acts 671 = .ok (.iaload, 1) := by decide +kernel
theorem dL_acts_672 : decode cL_acts 672 = .ok (.iastore, 1) := by decide +kernel
theorem dL_acts_673 : decode cL_acts 673 = .ok (.aload 7, 2) := by decide +kernel
theorem dL_acts_675 : decode cL_acts 675 = .ok (.iconst 4, 1) := by decide +kernel
theorem dL_acts_676 : decode cL_acts 676 = .ok (.iload 14, 2) := by decide +kernel
theorem dL_acts_678 : decode cL_acts 678 = .ok (.iastore, 1) := by decide +kernel
theorem dL_acts_679 : decode cL_acts 679 = .ok (.aload_n 0, 1) := by decide +kernel
theorem dL_acts_680 : decode cL_acts 680 = .ok (.iload 6, 2) := by decide +kernel
theorem dL_acts_682 : decode cL_acts 682 = .ok (.invokevirtual 163, 3) := by decide +kernel
theorem dL_acts_685 : decode cL_acts 685 = .ok (.iload 13, 2) := by decide +kernel
theorem dL_acts_687 : decode cL_acts 687 = .ok (.if_icmp .ne 7, 3) := by decide +kernel
theorem dL_acts_690 : decode cL_acts 690 = .ok (.iconst 1, 1) := by decide +kernel
theorem dL_acts_691 : decode cL_acts 691 = .ok (.goto 4, 3) := by decide +kernel
theorem dL_acts_694 : decode cL_acts 694 = .ok (.iconst 0, 1) := by decide +kernel
theorem dL_acts_695 : decode cL_acts 695 = .ok (.ireturn, 1) := by decide +kernel
theorem dL_acts_696 : decode cL_acts 696 = .ok (.aload_n 1, 1) := by decide +kernel
theorem dL_acts_697 : decode cL_acts 697 = .ok (.getfield 63, 3) := by decide +kernel
theorem dL_acts_700 : decode cL_acts 700 = .ok (.invokeinterface 89 1, 5) := by decide +kernel
theorem dL_acts_705 : decode cL_acts 705 = .ok (.bipush 16, 2) := by decide +kernel
theorem dL_acts_707 : decode cL_acts 707 = .ok (.if_icmp .ne 5, 3) := by decide +kernel
theorem dL_acts_710 : decode cL_acts 710 = .ok (.iconst 1, 1) := by decide +kernel
theorem dL_acts_711 : decode cL_acts 711 = .ok (.ireturn, 1) := by decide +kernel
theorem dL_acts_712 : decode cL_acts 712 = .ok (.aload_n 1, 1) := by decide +kernel
theorem dL_acts_713 : decode cL_acts 713 = .ok (.getfield 63, 3) := by decide +kernel
theorem dL_acts_716 : decode cL_acts 716 = .ok (.bipush 6, 2) := by decide +kernel
theorem dL_acts_718 : decode cL_acts 718 = .ok (.newarray .int, 2) := by decide +kernel
theorem dL_acts_720 : decode cL_acts 720 = .ok (.dup, 1) := by decide +kernel
theorem dL_acts_721 : decode cL_acts 721 = .ok (.iconst 0, 1) := by decide +kernel
theorem dL_acts_722 : decode cL_acts 722 = .ok (.iload 8, 2) := by decide +kernel
theorem dL_acts_724 : decode cL_acts 724 = .ok (.iastore, 1) := by decide +kernel
theorem dL_acts_725 : decode cL_acts 725 = .ok (.dup, 1) := by decide +kernel
theorem dL_acts_726 : decode cL_acts 726 = .ok (.iconst 1, 1) := by decide +kernel
theorem dL_acts_727 : decode cL_acts 727 = .ok (.iload 9, 2) := by decide +kernel
theorem dL_acts_729 : decode cL_acts 729 = .ok (.iload 10, 2) := by decide +kernel
theorem dL_acts_731 : decode cL_acts 731 = .ok (.iadd, 1) := by decide +kernel
theorem dL_acts_732 : decode cL_acts 732 = .ok (.iastore, 1) := by decide +kernel
theorem dL_acts_733 : decode cL_acts 733 = .ok (.dup, 1) := by decide +kernel
theorem dL_acts_734 : decode cL_acts 734 = .ok (.iconst 2, 1) := by decide +kernel
theorem dL_acts_735 : decode cL_acts 735 = .ok (.iload 11, 2) := by decide +kernel
theorem dL_acts_737 : decode cL_acts 737 = .ok (.iastore, 1) := by decide +kernel
theorem dL_acts_738 : decode cL_acts 738 = .ok (.dup, 1) := by decide +kernel
theorem dL_acts_739 : decode cL_acts 739 = .ok (.iconst 3, 1) := by decide +kernel
theorem dL_acts_740 : decode cL_acts 740 = .ok (.iconst 1, 1) := by decide +kernel
theorem dL_acts_741 : decode cL_acts 741 = .ok (.iastore, 1) := by decide +kernel
theorem dL_acts_742 : decode cL_acts 742 = .ok (.dup, 1) := by decide +kernel
theorem dL_acts_743 : decode cL_acts 743 = .ok (.iconst 4, 1) := by decide +kernel
theorem dL_acts_744 : decode cL_acts 744 = .ok (.iconst 1, 1) := by decide +kernel
theorem dL_acts_745 : decode cL_acts 745 = .ok (.iastore, 1) := by decide +kernel
theorem dL_acts_746 : decode cL_acts 746 = .ok (.dup, 1) := by decide +kernel
theorem dL_acts_747 : decode cL_acts 747 = .ok (.iconst 5, 1) := by decide +kernel
theorem dL_acts_748 : decode cL_acts 748 = .ok (.iload 12, 2) := by decide +kernel
theorem dL_acts_750 : decode cL_acts 750 = .ok (.iastore, 1) := by decide +kernel
theorem dL_acts_751 : decode cL_acts 751 = .ok (.invokeinterface 166 2, 5) := by decide +kernel
theorem dL_acts_756 : decode cL_acts 756 = .ok (.pop, 1) := by decide +kernel
theorem dL_acts_757 : decode cL_acts 757 = .ok (.aload_n 0, 1) := by decide +kernel
theorem dL_acts_758 : decode cL_acts 758 = .ok (.iload 8, 2) := by decide +kernel
theorem dL_acts_760 : decode cL_acts 760 = .ok (.iconst 1, 1) := by decide +kernel
theorem dL_acts_761 : decode cL_acts 761 = .ok (.if_icmp .ne 7, 3) := by decide +kernel
theorem dL_acts_764 : decode cL_acts 764 = .ok (.iconst 1, 1) := by decide +kernel
theorem dL_acts_765 : decode cL_acts 765 = .ok (.goto 4, 3) := by decide +kernel
theorem dL_acts_768 : decode cL_acts 768 = .ok (.iconst 0, 1) := by decide +kernel
theorem dL_acts_769 : decode cL_acts 769 = .ok (.iload 9, 2) := by decide +kernel
theorem dL_acts_771 : decode cL_acts 771 = .ok (.iload 10, 2) := by decide +kernel
theorem dL_acts_773 : decode cL_acts 773 = .ok (.iadd, 1) := by decide +kernel
theorem dL_acts_774 : decode cL_acts 774 = .ok (.iload 11, 2) := by decide +kernel
theorem dL_acts_776 : decode cL_acts 776 = .ok (.iload 12, 2) := by decide +kernel
theorem dL_acts_778 : decode cL_acts 778 = .ok (.invokevirtual 170, 3) := by decide +kernel
theorem dL_acts_781 : decode cL_acts 781 = .ok (.aload_n 1, 1) := by decide +kernel
theorem dL_acts_782 : decode cL_acts 782 = .ok (.getfield 63, 3) := by decide +kernel
theorem dL_acts_785 : decode cL_acts 785 = .ok (.invokeinterface 89 1, 5) := by decide +kernel
theorem dL_acts_790 : decode cL_acts 790 = .ok (.if_icmp .ne 7, 3) := by decide +kernel
theorem dL_acts_793 : decode cL_acts 793 = .ok (.iconst 1, 1) := by decide +kernel
theorem dL_acts_794 : decode cL_acts 794 = .ok (.goto 4, 3) := by decide +kernel
theorem dL_acts_797 : decode cL_acts 797 = .ok (.iconst 0, 1) := by decide +kernel
theorem dL_acts_798 : decode cL_acts 798 = .ok (.ireturn, 1) := by decide +kernel
theorem dL_holds_0 : decode cL_holds 0 = .ok (.aload_n 0, 1) := by decide +kernel
theorem dL_holds_1 : decode cL_holds 1 = .ok (.iconst 2, 1) := by decide +kernel
theorem dL_holds_2 : decode cL_holds 2 = .ok (.invokevirtual 131, 3) := by decide +kernel
theorem dL_holds_5 : decode cL_holds 5 = .ok (.istore_n 3, 1) := by decide +kernel
theorem dL_holds_6 : decode cL_holds 6 = .ok (.aload_n 0, 1) := by decide +kernel
theorem dL_holds_7 : decode cL_holds 7 = .ok (.iconst 1, 1) := by decide +kernel
theorem dL_holds_8 : decode cL_holds 8 = .ok (.invokevirtual 131, 3) := by decide +kernel
theorem dL_holds_11 : decode cL_holds 11 = .ok (.istore 4, 2) := by decide +kernel
theorem dL_holds_13 : decode cL_holds 13 = .ok (.iconst 0, 1) := by decide +kernel
theorem dL_holds_14 : decode cL_holds 14 = .ok (.istore 5, 2) := by decide +kernel
theorem dL_holds_16 : decode cL_holds 16 = .ok (.iconst 0, 1) := by decide +kernel
theorem dL_holds_17 : decode cL_holds 17 = .ok (.istore 6, 2) := by decide +kernel
theorem dL_holds_19 : decode cL_holds 19 = .ok (.iconst 0, 1) := by decide +kernel
theorem dL_holds_20 : decode cL_holds 20 = .ok (.istore 7, 2) := by decide +kernel
theorem dL_holds_22 : decode cL_holds 22 = .ok (.iconst 0, 1) := by decide +kernel
theorem dL_holds_23 : decode cL_holds 23 = .ok (.istore 8, 2) := by decide +kernel
theorem dL_holds_25 : decode cL_holds 25 = .ok (.iload 8, 2) := by decide +kernel
theorem dL_holds_27 : decode cL_holds 27 = .ok (.iload_n 3, 1) := by decide +kernel
theorem dL_holds_28 : decode cL_holds 28 = .ok (.if_icmp .ge 197, 3) := by decide +kernel
theorem dL_holds_31 : decode cL_holds 31 = .ok (.aload_n 0, 1) := by decide +kernel
theorem dL_holds_32 : decode cL_holds 32 = .ok (.iload 8, 2) := by decide +kernel
theorem dL_holds_34 : decode cL_holds 34 = .ok (.invokevirtual 174, 3) := by decide +kernel
theorem dL_holds_37 : decode cL_holds 37 = .ok (.iload_n 1, 1) := by decide +kernel
theorem dL_holds_38 : decode cL_holds 38 = .ok (.bipush 6, 2) := by decide +kernel
theorem dL_holds_40 : decode cL_holds 40 = .ok (.iadd, 1) := by decide +kernel
theorem dL_holds_41 : decode cL_holds 41 = .ok (.ishr, 1) := by decide +kernel
theorem dL_holds_42 : decode cL_holds 42 = .ok (.iconst 1, 1) := by decide +kernel
theorem dL_holds_43 : decode cL_holds 43 = .ok (.iand, 1) := by decide +kernel
theorem dL_holds_44 : decode cL_holds 44 = .ok (.iconst 1, 1) := by decide +kernel
theorem dL_holds_45 : decode cL_holds 45 = .ok (.if_icmp .ne 7, 3) := by decide +kernel
theorem dL_holds_48 : decode cL_holds 48 = .ok (.iconst 1, 1) := by decide +kernel
theorem dL_holds_49 : decode cL_holds 49 = .ok (.goto 4, 3) := by decide +kernel
theorem dL_holds_52 : decode cL_holds 52 = .ok (.iconst 0, 1) := by decide +kernel
theorem dL_holds_53 : decode cL_holds 53 = .ok (.istore 9, 2) := by decide +kernel
theorem dL_holds_55 : decode cL_holds 55 = .ok (.iconst 0, 1) := by decide +kernel
theorem dL_holds_56 : decode cL_holds 56 = .ok (.istore 10, 2) := by decide +kernel
theorem dL_holds_58 : decode cL_holds 58 = .ok (.iload 10, 2) := by decide +kernel
theorem dL_holds_60 : decode cL_holds 60 = .ok (.iload 4, 2) := by decide +kernel
theorem dL_holds_62 : decode cL_holds 62 = .ok (.if_icmp .ge 157, 3) := by decide +kernel
theorem dL_holds_65 : decode cL_holds 65 = .ok (.aload_n 0, 1) := by decide +kernel
theorem dL_holds_66 : decode cL_holds 66 = .ok (.iload_n 1, 1) := by decide +kernel
theorem dL_holds_67 : decode cL_holds 67 = .ok (.iload 8, 2) := by decide +kernel
theorem dL_holds_69 : decode cL_holds 69 = .ok (.iload 10, 2) := by decide +kernel
theorem dL_holds_71 : decode cL_holds 71 = .ok (.invokevirtual 177, 3) := by decide +kernel
theorem dL_holds_74 : decode cL_holds 74 = .ok (.istore 11, 2) := by decide +kernel
theorem dL_holds_76 : decode cL_holds 76 = .ok (.aload_n 0, 1) := by decide +kernel
theorem dL_holds_77 : decode cL_holds 77 = .ok (.iload_n 1, 1) := by decide +kernel
theorem dL_holds_78 : decode cL_holds 78 = .ok (.iload_n 2, 1) := by decide +kernel
theorem dL_holds_79 : decode cL_holds 79 = .ok (.iload 8, 2) := by decide +kernel
theorem dL_holds_81 : decode cL_holds 81 = .ok (.iload 10, 2) := by decide +kernel
theorem dL_holds_83 : decode cL_holds 83 = .ok (.invokevirtual 180, 3) := by decide +kernel
theorem dL_holds_86 : decode cL_holds 86 = .ok (.istore 12, 2) := by decide +kernel
theorem dL_holds_88 : decode cL_holds 88 = .ok (.iload 5, 2) := by decide +kernel
theorem dL_holds_90 : decode cL_holds 90 = .ok (.iload 11, 2) := by decide +kernel
theorem dL_holds_92 : decode cL_holds 92 = .ok (.ifCond .lt 7, 3) := by decide +kernel
theorem dL_holds_95 : decode cL_holds 95 = .ok (.iconst 1, 1) := by decide +kernel
theorem dL_holds_96 : decode cL_holds 96 = .ok (.goto 4, 3) := by decide +kernel
theorem dL_holds_99 : decode cL_holds 99 = .ok (.iconst 0, 1) := by decide +kernel
theorem dL_holds_100 : decode cL_holds 100 = .ok (.iadd, 1) := by decide +kernel
theorem dL_holds_101 : decode cL_holds 101 = .ok (.istore 5, 2) := by decide +kernel
theorem dL_holds_103 : decode cL_holds 103 = .ok (.iload 6, 2) := by decide +kernel
theorem dL_holds_105 : decode cL_holds 105 = .ok (.iload 12, 2) := by decide +kernel
theorem dL_holds_107 : decode cL_holds 107 = .ok (.ifCond .ne 7, 3) := by decide +kernel
theorem dL_holds_110 : decode cL_holds 110 = .ok (.iconst 1, 1) := by decide +kernel
theorem dL_holds_111 : decode cL_holds 111 = .ok (.goto 4, 3) := by decide +kernel
theorem dL_holds_114 : decode cL_holds 114 = .ok (.iconst 0, 1) := by decide +kernel
theorem dL_holds_115 : decode cL_holds 115 = .ok (.iadd, 1) := by decide +kernel
theorem dL_holds_116 : decode cL_holds 116 = .ok (.istore 6, 2) := by decide +kernel
theorem dL_holds_118 : decode cL_holds 118 = .ok (.iload 11, 2) := by decide +kernel
theorem dL_holds_120 : decode cL_holds 120 = .ok (.ifCond .lt 7, 3) := by decide +kernel
theorem dL_holds_123 : decode cL_holds 123 = .ok (.iconst 1, 1) := by decide +kernel
theorem dL_holds_124 : decode cL_holds 124 = .ok (.goto 4, 3) := by decide +kernel
theorem dL_holds_127 : decode cL_holds 127 = .ok (.iconst 0, 1) := by decide +kernel
theorem dL_holds_128 : decode cL_holds 128 = .ok (.iload 9, 2) := by decide +kernel
theorem dL_holds_130 : decode cL_holds 130 = .ok (.if_icmp .ne 60, 3) := by decide +kernel
theorem dL_holds_133 : decode cL_holds 133 = .ok (.iload 12, 2) := by decide +kernel
theorem dL_holds_135 : decode cL_holds 135 = .ok (.iconst 1, 1) := by decide +kernel
theorem dL_holds_136 : decode cL_holds 136 = .ok (.if_icmp .ne 7, 3) := by decide +kernel
theorem dL_holds_139 : decode cL_holds 139 = .ok (.iconst 1, 1) := by decide +kernel
theorem dL_holds_140 : decode cL_holds 140 = .ok (.goto 4, 3) := by decide +kernel
theorem dL_holds_143 : decode cL_holds 143 = .ok (.iconst 0, 1) := by decide +kernel
theorem dL_holds_144 : decode cL_holds 144 = .ok (.iload 11, 2) := by decide +kernel
theorem dL_holds_146 : decode cL_holds 146 = .ok (.bipush (-2), 2) := by decide +kernel
theorem dL_holds_148 : decode cL_holds 148 = .ok (.if_icmp .ne 7, 3) := by decide +kernel
theorem dL_holds_151 : decode cL_holds 151 = .ok (.iconst 1, 1) := by decide +kernel
theorem dL_holds_152 : decode cL_holds 152 = .ok (.goto 4, 3) := by decide +kernel
theorem dL_holds_155 : decode cL_holds 155 = .ok (.iconst 0, 1) := by decide +kernel
theorem dL_holds_156 : decode cL_holds 156 = .ok (.if_icmp .ne 34, 3) := by decide +kernel
theorem dL_holds_159 : decode cL_holds 159 = .ok (.iload 12, 2) := by decide +kernel
theorem dL_holds_161 : decode cL_holds 161 = .ok (.iconst 2, 1) := by decide +kernel
theorem dL_holds_162 : decode cL_holds 162 = .ok (.if_icmp .eq 9, 3) := by decide +kernel
theorem dL_holds_165 : decode cL_holds 165 = .ok (.iload 12, 2) := by decide +kernel
theorem dL_holds_167 : decode cL_holds 167 = .ok (.iconst 3, 1) := by decide +kernel
theorem dL_holds_168 : decode cL_holds 168 = .ok (.if_icmp .ne 7, 3) := by decide +kernel
theorem dL_holds_171 : decode cL_holds 171 = .ok (.iconst 1, 1) := by decide +kernel
theorem dL_holds_172 : decode cL_holds 172 = .ok (.goto 4, 3) := by decide +kernel
theorem dL_holds_175 : decode cL_holds 175 = .ok (.iconst 0, 1) := by decide +kernel
theorem dL_holds_176 : decode cL_holds 176 = .ok (.iload 11, 2) := by decide +kernel
theorem dL_holds_178 : decode cL_holds 178 = .ok (.iconst (-1), 1) := by decide +kernel
theorem dL_holds_179 : decode cL_holds 179 = .ok (.if_icmp .ne 7, 3) := by decide +kernel
theorem dL_holds_182 : decode cL_holds 182 = .ok (.iconst 1, 1) := by decide +kernel
theorem dL_holds_183 : decode cL_holds 183 = .ok (.goto 4, 3) := by decide +kernel
theorem dL_holds_186 : decode cL_holds 186 = .ok (.iconst 0, 1) := by decide +kernel
theorem dL_holds_187 : decode cL_holds 187 = .ok (.if_icmp .eq 5, 3) := by decide +kernel
theorem dL_holds_190 : decode cL_holds 190 = .ok (.iconst 0, 1) := by decide +kernel
theorem dL_holds_191 : decode cL_holds 191 = .ok (.ireturn, 1) := by decide +kernel
theorem dL_holds_192 : decode cL_holds 192 = .ok (.iload 12, 2) := by decide +kernel
theorem dL_holds_194 : decode cL_holds 194 = .ok (.ifCond .ne 19, 3) := by decide +kernel
theorem dL_holds_197 : decode cL_holds 197 = .ok (.iload 11, 2) := by decide +kernel
theorem dL_holds_199 : decode cL_holds 199 = .ok (.aload_n 0, 1) := by decide +kernel
theorem dL_holds_200 : decode cL_holds 200 = .ok (.iload_n 2, 1) := by decide +kernel
theorem dL_holds_201 : decode cL_holds 201 = .ok (.iload 8, 2) := by decide +kernel
theorem dL_holds_203 : decode cL_holds 203 = .ok (.iload 10, 2) := by decide +kernel
theorem dL_holds_205 : decode cL_holds 205 = .ok (.invokevirtual 183, 3) := by decide +kernel
theorem dL_holds_208 : decode cL_holds 208 = .ok (.if_icmp .eq 5, 3) := by decide +kernel
theorem dL_holds_211 : decode cL_holds 211 = .ok (.iconst 0, 1) := by decide +kernel
theorem dL_holds_212 : decode cL_holds 212 = .ok (.ireturn, 1) := by decide +kernel
theorem dL_holds_213 : decode cL_holds 213 = .ok (.iinc 10 1, 3) := by decide +kernel
theorem dL_holds_216 : decode cL_holds 216 = .ok (.goto (-158), 3) := by decide +kernel
theorem dL_holds_219 : decode cL_holds 219 = .ok (.iinc 8 1, 3) := by decide +kernel
theorem dL_holds_222 : decode cL_holds 222 = .ok (.goto (-197), 3) := by decide +kernel
theorem dL_holds_225 : decode cL_holds 225 = .ok (.iconst 0, 1) := by decide +kernel
theorem dL_holds_226 : decode cL_holds 226 = .ok (.istore 8, 2) := by decide +kernel
theorem dL_holds_228 : decode cL_holds 228 = .ok (.iload 8, 2) := by decide +kernel
theorem dL_holds_230 : decode cL_holds 230 = .ok (.aload_n 0, 1) := by decide +kernel
theorem dL_holds_231 : decode cL_holds 231 = .ok (.iconst 0, 1) := by decide +kernel
theorem dL_holds_232 : decode cL_holds 232 = .ok (.invokevirtual 131, 3) := by decide +kernel
theorem dL_holds_235 : decode cL_holds 235 = .ok (.if_icmp .ge 76, 3) := by decide +kernel
theorem dL_holds_238 : decode cL_holds 238 = .ok (.iload 7, 2) := by decide +kernel
theorem dL_holds_240 : decode cL_holds 240 = .ok (.aload_n 0, 1) := by decide +kernel
theorem dL_holds_241 : decode cL_holds 241 = .ok (.iload 8, 2) := by decide +kernel
theorem dL_holds_243 : decode cL_holds 243 = .ok (.iconst 0, 1) := by decide +kernel
theorem dL_holds_244 : decode cL_holds 244 = .ok (.invokevirtual 106, 3) := by decide +kernel
theorem dL_holds_247 : decode cL_holds 247 = .ok (.iadd, 1) := by decide +kernel
theorem dL_holds_248 : decode cL_holds 248 = .ok (.istore 7, 2) := by decide +kernel
theorem dL_holds_250 : decode cL_holds 250 = .ok (.aload_n 0, 1) := by decide +kernel
theorem dL_holds_251 : decode cL_holds 251 = .ok (.iload 8, 2) := by decide +kernel
theorem dL_holds_253 : decode cL_holds 253 = .ok (.iconst 4, 1) := by decide +kernel
theorem dL_holds_254 : decode cL_holds 254 = .ok (.invokevirtual 106, 3) := by decide +kernel
theorem dL_holds_257 : decode cL_holds 257 = .ok (.aload_n 0, 1) := by decide +kernel
theorem dL_holds_258 : decode cL_holds 258 = .ok (.iconst 5, 1) := by decide +kernel
theorem dL_holds_259 : decode cL_holds 259 = .ok (.invokevirtual 131, 3) := by decide +kernel
theorem dL_holds_262 : decode cL_holds 262 = .ok (.if_icmp .gt 41, 3) := by decide +kernel
theorem dL_holds_265 : decode cL_holds 265 = .ok (.aload_n 0, 1) := by decide +kernel
theorem dL_holds_266 : decode cL_holds 266 = .ok (.iload 8, 2) := by decide +kernel
theorem dL_holds_268 : decode cL_holds 268 = .ok (.iconst 5, 1) := by decide +kernel
theorem dL_holds_269 : decode cL_holds 269 = .ok (.invokevirtual 106, 3) := by decide +kernel
theorem dL_holds_272 : decode cL_holds 272 = .ok (.aload_n 0, 1) := by decide +kernel
theorem dL_holds_273 : decode cL_holds 273 = .ok (.iconst 5, 1) := by decide +kernel
theorem dL_holds_274 : decode cL_holds 274 = .ok (.invokevirtual 131, 3) := by decide +kernel
theorem dL_holds_277 : decode cL_holds 277 = .ok (.if_icmp .gt 26, 3) := by decide +kernel
theorem dL_holds_280 : decode cL_holds 280 = .ok (.aload_n 0, 1) := by decide +kernel
theorem dL_holds_281 : decode cL_holds 281 = .ok (.iload 8, 2) := by decide +kernel
theorem dL_holds_283 : decode cL_holds 283 = .ok (.iconst 2, 1) := by decide +kernel
theorem dL_holds_284 : decode cL_holds 284 = .ok (.invokevirtual 106, 3) := by decide +kernel
theorem dL_holds_287 : decode cL_holds 287 = .ok (.bipush (-4), 2) := by decide +kernel
theorem dL_holds_289 : decode cL_holds 289 = .ok (.if_icmp .lt 14, 3) := by decide +kernel
theorem dL_holds_292 : decode cL_holds 292 = .ok (.aload_n 0, 1) := by decide +kernel
theorem dL_holds_293 : decode cL_holds 293 = .ok (.iload 8, 2) := by decide +kernel
theorem dL_holds_295 : decode cL_holds 295 = .ok (.iconst 2, 1) := by decide +kernel
theorem dL_holds_296 : decode cL_holds 296 = .ok (.invokevirtual 106, 3) := by decide +kernel
theorem dL_holds_299 : decode cL_holds 299 = .ok (.iconst 4, 1) := by decide +kernel
theorem dL_holds_300 : decode cL_holds 300 = .ok (.if_icmp .le 5, 3) := by decide +kernel
theorem dL_holds_303 : decode cL_holds 303 = .ok (.iconst 0, 1) := by decide +kernel
theorem dL_holds_304 : decode cL_holds 304 = .ok (.ireturn, 1) := by decide +kernel
theorem dL_holds_305 : decode cL_holds 305 = .ok (.iinc 8 1, 3) := by decide +kernel
theorem dL_holds_308 : decode cL_holds 308 = .ok (.goto (-80), 3) := by decide +kernel
theorem dL_holds_311 : decode cL_holds 311 = .ok (.iload 7, 2) := by decide +kernel
theorem dL_holds_313 : decode cL_holds 313 = .ok (.iload_n 3, 1) := by decide +kernel
theorem dL_holds_314 : decode cL_holds 314 = .ok (.if_icmp .ne 58, 3) := by decide +kernel
theorem dL_holds_317 : decode cL_holds 317 = .ok (.iload 5, 2) := by decide +kernel
theorem dL_holds_319 : decode cL_holds 319 = .ok (.aload_n 0, 1) := by decide +kernel
theorem dL_holds_320 : decode cL_holds 320 = .ok (.iload_n 1, 1) := by decide +kernel
theorem dL_holds_321 : decode cL_holds 321 = .ok (.invokevirtual 186, 3) := by decide +kernel
theorem dL_holds_324 : decode cL_holds 324 = .ok (.iadd, 1) := by decide +kernel
theorem dL_holds_325 : decode cL_holds 325 = .ok (.aload_n 0, 1) := by decide +kernel
theorem dL_holds_326 : decode cL_holds 326 = .ok (.iload_n 1, 1) := by decide +kernel
theorem dL_holds_327 : decode cL_holds 327 = .ok (.invokevirtual 189, 3) := by decide +kernel
theorem dL_holds_330 : decode cL_holds 330 = .ok (.iadd, 1) := by decide +kernel
theorem dL_holds_331 : decode cL_holds 331 = .ok (.iload_n 3, 1) := by decide +kernel
theorem dL_holds_332 : decode cL_holds 332 = .ok (.iload 4, 2) := by decide +kernel
theorem dL_holds_334 : decode cL_holds 334 = .ok (.imul, 1) := by decide +kernel
theorem dL_holds_335 : decode cL_holds 335 = .ok (.if_icmp .ne 37, 3) := by decide +kernel
theorem dL_holds_338 : decode cL_holds 338 = .ok (.aload_n 0, 1) := by decide +kernel
theorem dL_holds_339 : decode cL_holds 339 = .ok (.iload_n 1, 1) := by decide +kernel
theorem dL_holds_340 : decode cL_holds 340 = .ok (.iload_n 2, 1) := by decide +kernel
theorem dL_holds_341 : decode cL_holds 341 = .ok (.invokevirtual 192, 3) := by decide +kernel
theorem dL_holds_344 : decode cL_holds 344 = .ok (.iload 6, 2) := by decide +kernel
theorem dL_holds_346 : decode cL_holds 346 = .ok (.if_icmp .ne 26, 3) := by decide +kernel
theorem dL_holds_349 : decode cL_holds 349 = .ok (.iload 6, 2) := by decide +kernel
theorem dL_holds_351 : decode cL_holds 351 = .ok (.aload_n 0, 1) := by decide +kernel
theorem dL_holds_352 : decode cL_holds 352 = .ok (.iload_n 1, 1) := by decide +kernel
theorem dL_holds_353 : decode cL_holds 353 = .ok (.iload_n 2, 1) := by decide +kernel
theorem dL_holds_354 : decode cL_holds 354 = .ok (.invokevirtual 195, 3) := by decide +kernel
theorem dL_holds_357 : decode cL_holds 357 = .ok (.iadd, 1) := by decide +kernel
theorem dL_holds_358 : decode cL_holds 358 = .ok (.iload 5, 2) := by decide +kernel
theorem dL_holds_360 : decode cL_holds 360 = .ok (.if_icmp .gt 12, 3) := by decide +kernel
theorem dL_holds_363 : decode cL_holds 363 = .ok (.aload_n 0, 1) := by decide +kernel
theorem dL_holds_364 : decode cL_holds 364 = .ok (.iload_n 1, 1) := by decide +kernel
theorem dL_holds_365 : decode cL_holds 365 = .ok (.invokevirtual 198, 3) := by decide +kernel
theorem dL_holds_368 : decode cL_holds 368 = .ok (.iload_n 3, 1) := by decide +kernel
theorem dL_holds_369 : decode cL_holds 369 = .ok (.if_icmp .le 5, 3) := by decide +kernel
theorem dL_holds_372 : decode cL_holds 372 = .ok (.iconst 0, 1) := by decide +kernel
theorem dL_holds_373 : decode cL_holds 373 = .ok (.ireturn, 1) := by decide +kernel
theorem dL_holds_374 : decode cL_holds 374 = .ok (.aload_n 0, 1) := by decide +kernel
theorem dL_holds_375 : decode cL_holds 375 = .ok (.iload_n 1, 1) := by decide +kernel
theorem dL_holds_376 : decode cL_holds 376 = .ok (.invokevirtual 201, 3) := by decide +kernel
theorem dL_holds_379 : decode cL_holds 379 = .ok (.iload_n 2, 1) := by decide +kernel
theorem dL_holds_380 : decode cL_holds 380 = .ok (.ifCond .eq 7, 3) := by decide +kernel
theorem dL_holds_383 : decode cL_holds 383 = .ok (.iconst 1, 1) := by decide +kernel
theorem dL_holds_384 : decode cL_holds 384 = .ok (.goto 4, 3) := by decide +kernel
theorem dL_holds_387 : decode cL_holds 387 = .ok (.iconst 0, 1) := by decide +kernel
theorem dL_holds_388 : decode cL_holds 388 = .ok (.ishr, 1) := by decide +kernel
theorem dL_holds_389 : decode cL_holds 389 = .ok (.iconst 1, 1) := by decide +kernel
theorem dL_holds_390 : decode cL_holds 390 = .ok (.iand, 1) := by decide +kernel
theorem dL_holds_391 : decode cL_holds 391 = .ok (.istore 8, 2) := by decide +kernel
theorem dL_holds_393 : decode cL_holds 393 = .ok (.iload_n 3, 1) := by decide +kernel
theorem dL_holds_394 : decode cL_holds 394 = .ok (.ifCond .le 32, 3) := by decide +kernel
theorem dL_holds_397 : decode cL_holds 397 = .ok (.iload 8, 2) := by decide +kernel
theorem dL_holds_399 : decode cL_holds 399 = .ok (.iconst 1, 1) := by decide +kernel
theorem dL_holds_400 : decode cL_holds 400 = .ok (.if_icmp .ne 7, 3) := by decide +kernel
theorem dL_holds_403 : decode cL_holds 403 = .ok (.iconst 1, 1) := by decide +kernel
theorem dL_holds_404 : decode cL_holds 404 = .ok (.goto 4, 3) := by decide +kernel
theorem dL_holds_407 : decode cL_holds 407 = .ok (.iconst 0, 1) := by decide +kernel
theorem dL_holds_408 : decode cL_holds 408 = .ok (.aload_n 0, 1) := by decide +kernel
theorem dL_holds_409 : decode cL_holds 409 = .ok (.iload_n 1, 1) := by decide +kernel
theorem dL_holds_410 : decode cL_holds 410 = .ok (.iload_n 2, 1) := by decide +kernel
theorem dL_holds_411 : decode cL_holds 411 = .ok (.invokevirtual 204, 3) := by decide +kernel
theorem dL_holds_414 : decode cL_holds 414 = .ok (.iconst (-1), 1) := by decide +kernel
theorem dL_holds_415 : decode cL_holds 415 = .ok (.if_icmp .ne 7, 3) := by decide +kernel
theorem dL_holds_418 : decode cL_holds 418 = .ok (.iconst 1, 1) := by decide +kernel
theorem dL_holds_419 : decode cL_holds 419 = .ok (.goto 4, 3) := by decide +kernel
theorem dL_holds_422 : decode cL_holds 422 = .ok (.iconst 0, 1) := by decide +kernel
theorem dL_holds_423 : decode cL_holds 423 = .ok (.if_icmp .ne 18, 3) := by decide +kernel
theorem dL_holds_426 : decode cL_holds 426 = .ok (.iload 8, 2) := by decide +kernel
theorem dL_holds_428 : decode cL_holds 428 = .ok (.iconst 1, 1) := by decide +kernel
theorem dL_holds_429 : decode cL_holds 429 = .ok (.if_icmp .ne 14, 3) := by decide +kernel
theorem dL_holds_432 : decode cL_holds 432 = .ok (.aload_n 0, 1) := by decide +kernel
theorem dL_holds_433 : decode cL_holds 433 = .ok (.iload_n 1, 1) := by decide +kernel
theorem dL_holds_434 : decode cL_holds 434 = .ok (.iload_n 2, 1) := by decide +kernel
theorem dL_holds_435 : decode cL_holds 435 = .ok (.invokevirtual 207, 3) := by decide +kernel
theorem dL_holds_438 : decode cL_holds 438 = .ok (.ifCond .eq 5, 3) := by decide +kernel
theorem dL_holds_441 : decode cL_holds 441 = .ok (.iconst 0, 1) := by decide +kernel
theorem dL_holds_442 : decode cL_holds 442 = .ok (.ireturn, 1) := by decide +kernel
theorem dL_holds_443 : decode cL_holds 443 = .ok (.iload_n 3, 1) := by decide +kernel
theorem dL_holds_444 : decode cL_holds 444 = .ok (.ifCond .eq 35, 3) := by decide +kernel
theorem dL_holds_447 : decode cL_holds 447 = .ok (.aload_n 0, 1) := by decide +kernel
theorem dL_holds_448 : decode cL_holds 448 = .ok (.aload_n 0, 1) := by decide +kernel
theorem dL_holds_449 : decode cL_holds 449 = .ok (.iload_n 2, 1) := by decide +kernel
theorem dL_holds_450 : decode cL_holds 450 = .ok (.invokevirtual 210, 3) := by decide +kernel
theorem dL_holds_453 : decode cL_holds 453 = .ok (.iload_n 2, 1) := by decide +kernel
theorem dL_holds_454 : decode cL_holds 454 = .ok (.invokevirtual 192, 3) := by decide +kernel
theorem dL_holds_457 : decode cL_holds 457 = .ok (.iload 6, 2) := by decide +kernel
theorem dL_holds_459 : decode cL_holds 459 = .ok (.if_icmp .lt 24, 3) := by decide +kernel
theorem dL_holds_462 : decode cL_holds 462 = .ok (.aload_n 0, 1) := by decide +kernel
theorem dL_holds_463 : decode cL_holds 463 = .ok (.aload_n 0, 1) := by decide +kernel
theorem dL_holds_464 : decode cL_holds 464 = .ok (.invokevirtual 214, 3) := by decide +kernel
theorem dL_holds_467 : decode cL_holds 467 = .ok (.invokevirtual 217, 3) := by decide +kernel
theorem dL_holds_470 : decode cL_holds 470 = .ok (.aload_n 0, 1) := by decide +kernel
theorem dL_holds_471 : decode cL_holds 471 = .ok (.iload_n 1, 1) := by decide +kernel
theorem dL_holds_472 : decode cL_holds 472 = .ok (.invokevirtual 217, 3) := by decide +kernel
theorem dL_holds_475 : decode cL_holds 475 = .ok (.fcmp .l, 1) := by decide +kernel
theorem dL_holds_476 : decode cL_holds 476 = .ok (.ifCond .lt 7, 3) := by decide +kernel
theorem dL_holds_479 : decode cL_holds 479 = .ok (.iconst 1, 1) := by decide +kernel
theorem dL_holds_480 : decode cL_holds 480 = .ok (.goto 4, 3) := by decide +kernel
theorem dL_holds_483 : decode cL_holds 483 = .ok (.iconst 0, 1) := by decide +kernel
theorem dL_holds_484 : decode cL_holds 484 = .ok (.ireturn, 1) := by decide +kernel
theorem dL_comes_0 : decode cL_comes 0 = .ok (.aload_n 0, 1) := by decide +kernel
theorem dL_comes_1 : decode cL_comes 1 = .ok (.iload_n 2, 1) := by decide +kernel
theorem dL_comes_2 : decode cL_comes 2 = .ok (.iload_n 3, 1) := by decide +kernel
theorem dL_comes_3 : decode cL_comes 3 = .ok (.invokevirtual 192, 3) := by decide +kernel
theorem dL_comes_6 : decode cL_comes 6 = .ok (.istore 4, 2) := by decide +kernel
theorem dL_comes_8 : decode cL_comes 8 = .ok (.aload_n 0, 1) := by decide +kernel
theorem dL_comes_9 : decode cL_comes 9 = .ok (.iload_n 2, 1) := by decide +kernel
theorem dL_comes_10 : decode cL_comes 10 = .ok (.iload_n 3, 1) := by decide +kernel
theorem dL_comes_11 : decode cL_comes 11 = .ok (.invokevirtual 221, 3) := by decide +kernel
theorem dL_comes_14 : decode cL_comes 14 = .ok (.istore 5, 2) := by decide +kernel
theorem dL_comes_16 : decode cL_comes 16 = .ok (.iload 5, 2) := by decide +kernel
theorem dL_comes_18 : decode cL_comes 18 = .ok (.ifCond .eq 33, 3) := by decide +kernel
theorem dL_comes_21 : decode cL_comes 21 = .ok (.aload_n 0, 1) := by decide +kernel
theorem dL_comes_22 : decode cL_comes 22 = .ok (.iload 5, 2) := by decide +kernel
theorem dL_comes_24 : decode cL_comes 24 = .ok (.invokevirtual 139, 3) := by decide +kernel
theorem dL_comes_27 : decode cL_comes 27 = .ok (.iconst 1, 1) := by decide +kernel
theorem dL_comes_28 : decode cL_comes 28 = .ok (.if_icmp .lt 21, 3) := by decide +kernel
theorem dL_comes_31 : decode cL_comes 31 = .ok (.aload_n 0, 1) := by decide +kernel
theorem dL_comes_32 : decode cL_comes 32 = .ok (.iload_n 2, 1) := by decide +kernel
theorem dL_comes_33 : decode cL_comes 33 = .ok (.iload_n 3, 1) := by decide +kernel
theorem dL_comes_34 : decode cL_comes 34 = .ok (.invokevirtual 192, 3) := by decide +kernel
theorem dL_comes_37 : decode cL_comes 37 = .ok (.iload 4, 2) := by decide +kernel
theorem dL_comes_39 : decode cL_comes 39 = .ok (.if_icmp .le 10, 3) := by decide +kernel
theorem dL_comes_42 : decode cL_comes 42 = .ok (.aload_n 0, 1) := by decide +kernel
theorem dL_comes_43 : decode cL_comes 43 = .ok (.invokevirtual 224, 3) := by decide +kernel
theorem dL_comes_46 : decode cL_comes 46 = .ok (.ifCond .ge 5, 3) := by decide +kernel
theorem dL_comes_49 : decode cL_comes 49 = .ok (.iconst 0, 1) := by decide +kernel
theorem dL_comes_50 : decode cL_comes 50 = .ok (.ireturn, 1) := by decide +kernel
theorem dL_comes_51 : decode cL_comes 51 = .ok (.iconst 0, 1) := by decide +kernel
theorem dL_comes_52 : decode cL_comes 52 = .ok (.istore 6, 2) := by decide +kernel
theorem dL_comes_54 : decode cL_comes 54 = .ok (.iload 6, 2) := by decide +kernel
theorem dL_comes_56 : decode cL_comes 56 = .ok (.aload_n 0, 1) := by decide +kernel
theorem dL_comes_57 : decode cL_comes 57 = .ok (.iconst 0, 1) := by decide +kernel
theorem dL_comes_58 : decode cL_comes 58 = .ok (.invokevirtual 131, 3) := by decide +kernel
theorem dL_comes_61 : decode cL_comes 61 = .ok (.if_icmp .ge 75, 3) := by decide +kernel
theorem dL_comes_64 : decode cL_comes 64 = .ok (.aload_n 0, 1) := by decide +kernel
theorem dL_comes_65 : decode cL_comes 65 = .ok (.iload 6, 2) := by decide +kernel
theorem dL_comes_67 : decode cL_comes 67 = .ok (.iconst 3, 1) := by decide +kernel
theorem dL_comes_68 : decode cL_comes 68 = .ok (.invokevirtual 106, 3) := by decide +kernel
theorem dL_comes_71 : decode cL_comes 71 = .ok (.iconst 1, 1) := by decide +kernel
theorem dL_comes_72 : decode cL_comes 72 = .ok (.if_icmp .ne 6, 3) := by decide +kernel
theorem dL_comes_75 : decode cL_comes 75 = .ok (.goto 55, 3) := by decide +kernel
theorem dL_comes_78 : decode cL_comes 78 = .ok (.aload_n 0, 1) := by decide +kernel
theorem dL_comes_79 : decode cL_comes 79 = .ok (.iload 6, 2) := by decide +kernel
theorem dL_comes_81 : decode cL_comes 81 = .ok (.iload_n 2, 1) := by decide +kernel
theorem dL_comes_82 : decode cL_comes 82 = .ok (.iload_n 3, 1) := by decide +kernel
theorem dL_comes_83 : decode cL_comes 83 = .ok (.invokevirtual 227, 3) := by decide +kernel
theorem dL_comes_86 : decode cL_comes 86 = .ok (.istore 7, 2) := by decide +kernel
theorem dL_comes_88 : decode cL_comes 88 = .ok (.aload_n 0, 1) := by decide +kernel
theorem dL_comes_89 : decode cL_comes 89 = .ok (.iload 6, 2) := by decide +kernel
theorem dL_comes_91 : decode cL_comes 91 = .ok (.iconst 2, 1) := by decide +kernel
theorem dL_comes_92 : decode cL_comes 92 = .ok (.invokevirtual 106, 3) := by decide +kernel
theorem dL_comes_95 : decode cL_comes 95 = .ok (.istore 8, 2) := by decide +kernel
theorem dL_comes_97 : decode cL_comes 97 = .ok (.aload_n 0, 1) := by decide +kernel
theorem dL_comes_98 : decode cL_comes 98 = .ok (.iload 6, 2) := by decide +kernel
theorem dL_comes_100 : decode cL_comes 100 = .ok (.iload 7, 2) := by decide +kernel
theorem dL_comes_102 : decode cL_comes 102 = .ok (.invokevirtual 144, 3) := by decide +kernel
theorem dL_comes_105 : decode cL_comes 105 = .ok (.iload 8, 2) := by decide +kernel
theorem dL_comes_107 : decode cL_comes 107 = .ok (.if_icmp .ne 21, 3) := by decide +kernel
theorem dL_comes_110 : decode cL_comes 110 = .ok (.aload_n 0, 1) := by decide +kernel
theorem dL_comes_111 : decode cL_comes 111 = .ok (.iload_n 2, 1) := by decide +kernel
theorem dL_comes_112 : decode cL_comes 112 = .ok (.iload_n 3, 1) := by decide +kernel
theorem dL_comes_113 : decode cL_comes 113 = .ok (.invokevirtual 192, 3) := by decide +kernel
theorem dL_comes_116 : decode cL_comes 116 = .ok (.iload 4, 2) := by decide +kernel
theorem dL_comes_118 : decode cL_comes 118 = .ok (.if_icmp .lt 10, 3) := by decide +kernel
theorem dL_comes_121 : decode cL_comes 121 = .ok (.aload_n 0, 1) := by decide +kernel
theorem dL_comes_122 : decode cL_comes 122 = .ok (.invokevirtual 224, 3) := by decide +kernel
theorem dL_comes_125 : decode cL_comes 125 = .ok (.ifCond .ge 5, 3) := by decide +kernel
theorem dL_comes_128 : decode cL_comes 128 = .ok (.iconst 0, 1) := by decide +kernel
theorem dL_comes_129 : decode cL_comes 129 = .ok (.ireturn, 1) := by decide +kernel
theorem dL_comes_130 : decode cL_comes 130 = .ok (.iinc 6 1, 3) := by decide +kernel
theorem dL_comes_133 : decode cL_comes 133 = .ok (.goto (-79), 3) := by decide +kernel
theorem dL_comes_136 : decode cL_comes 136 = .ok (.aload_n 0, 1) := by decide +kernel
theorem dL_comes_137 : decode cL_comes 137 = .ok (.iload_n 3, 1) := by decide +kernel
theorem dL_comes_138 : decode cL_comes 138 = .ok (.invokevirtual 231, 3) := by decide +kernel
theorem dL_comes_141 : decode cL_comes 141 = .ok (.istore 6, 2) := by decide +kernel
theorem dL_comes_143 : decode cL_comes 143 = .ok (.iconst 0, 1) := by decide +kernel
theorem dL_comes_144 : decode cL_comes 144 = .ok (.istore 7, 2) := by decide +kernel
theorem dL_comes_146 : decode cL_comes 146 = .ok (.iload 7, 2) := by decide +kernel
theorem dL_comes_148 : decode cL_comes 148 = .ok (.aload_n 0, 1) := by decide +kernel
theorem dL_comes_149 : decode cL_comes 149 = .ok (.iconst 0, 1) := by decide +kernel
theorem dL_comes_150 : decode cL_comes 150 = .ok (.invokevirtual 131, 3) := by decide +kernel
theorem dL_comes_153 : decode cL_comes 153 = .ok (.if_icmp .ge 82, 3) := by decide +kernel
theorem dL_comes_156 : decode cL_comes 156 = .ok (.iload 6, 2) := by decide +kernel
theorem dL_comes_158 : decode cL_comes 158 = .ok (.iload 7, 2) := by decide +kernel
theorem dL_comes_160 : decode cL_comes 160 = .ok (.ishr, 1) := by decide +kernel
theorem dL_comes_161 : decode cL_comes 161 = .ok (.iconst 1, 1) := by decide +kernel
theorem dL_comes_162 : decode cL_comes 162 = .ok (.iand, 1) := by decide +kernel
theorem dL_comes_163 : decode cL_comes 163 = .ok (.ifCond .ne 6, 3) := by decide +kernel
theorem dL_comes_166 : decode cL_comes 166 = .ok (.goto 63, 3) := by decide +kernel
theorem dL_comes_169 : decode cL_comes 169 = .ok (.aload_n 0, 1) := by decide +kernel
theorem dL_comes_170 : decode cL_comes 170 = .ok (.iload 7, 2) := by decide +kernel
theorem dL_comes_172 : decode cL_comes 172 = .ok (.iload_n 3, 1) := by decide +kernel
theorem dL_comes_173 : decode cL_comes 173 = .ok (.ifCond .eq 8, 3) := by decide +kernel
theorem dL_comes_176 : decode cL_comes 176 = .ok (.bipush 7, 2) := by decide +kernel
theorem dL_comes_178 : decode cL_comes 178 = .ok (.goto 5, 3) := by decide +kernel
theorem dL_comes_181 : decode cL_comes 181 = .ok (.bipush 6, 2) := by decide +kernel
theorem dL_comes_183 : decode cL_comes 183 = .ok (.invokevirtual 106, 3) := by decide +kernel
theorem dL_comes_186 : decode cL_comes 186 = .ok (.istore 8, 2) := by decide +kernel
theorem dL_comes_188 : decode cL_comes 188 = .ok (.aload_n 0, 1) := by decide +kernel
theorem dL_comes_189 : decode cL_comes 189 = .ok (.iload 7, 2) := by decide +kernel
theorem dL_comes_191 : decode cL_comes 191 = .ok (.iload_n 3, 1) := by decide +kernel
theorem dL_comes_192 : decode cL_comes 192 = .ok (.invokevirtual 155, 3) := by decide +kernel
theorem dL_comes_195 : decode cL_comes 195 = .ok (.iload 8, 2) := by decide +kernel
theorem dL_comes_197 : decode cL_comes 197 = .ok (.if_icmp .ne 30, 3) := by decide +kernel
theorem dL_comes_200 : decode cL_comes 200 = .ok (.aload_n 0, 1) := by decide +kernel
theorem dL_comes_201 : decode cL_comes 201 = .ok (.iload 7, 2) := by decide +kernel
theorem dL_comes_203 : decode cL_comes 203 = .ok (.iload_n 3, 1) := by decide +kernel
theorem dL_comes_204 : decode cL_comes 204 = .ok (.ifCond .eq 8, 3) := by decide +kernel
theorem dL_comes_207 : decode cL_comes 207 = .ok (.bipush 7, 2) := by decide +kernel
theorem dL_comes_209 : decode cL_comes 209 = .ok (.goto 5, 3) := by decide +kernel
theorem dL_comes_212 : decode cL_comes 212 = .ok (.bipush 6, 2) := by decide +kernel
theorem dL_comes_214 : decode cL_comes 214 = .ok (.invokevirtual 106, 3) := by decide +kernel
theorem dL_comes_217 : decode cL_comes 217 = .ok (.ifCond .ne 10, 3) := by decide +kernel
theorem dL_comes_220 : decode cL_comes 220 = .ok (.aload_n 0, 1) := by decide +kernel
theorem dL_comes_221 : decode cL_comes 221 = .ok (.invokevirtual 224, 3) := by decide +kernel
theorem dL_comes_224 : decode cL_comes 224 = .ok (.ifCond .ge 5, 3) := by decide +kernel
theorem dL_comes_227 : decode cL_comes 227 = .ok (.iconst 0, 1) := by decide +kernel
theorem dL_comes_228 : decode cL_comes 228 = .ok (.ireturn, 1) := by decide +kernel
theorem dL_comes_229 : decode cL_comes 229 = .ok (.iinc 7 1, 3) := by decide +kernel
theorem dL_comes_232 : decode cL_comes 232 = .ok (.goto (-86), 3) := by decide +kernel
theorem dL_comes_235 : decode cL_comes 235 = .ok (.aload_n 0, 1) := by decide +kernel
theorem dL_comes_236 : decode cL_comes 236 = .ok (.aload_n 1, 1) := by decide +kernel
theorem dL_comes_237 : decode cL_comes 237 = .ok (.invokestatic 234, 3) := by decide +kernel
theorem dL_comes_240 : decode cL_comes 240 = .ok (.ireturn, 1) := by decide +kernel
theorem dL_law_0 : decode cL_law 0 = .ok (.aload_n 0, 1) := by decide +kernel
theorem dL_law_1 : decode cL_law 1 = .ok (.invokestatic 238, 3) := by decide +kernel
theorem dL_law_4 : decode cL_law 4 = .ok (.astore_n 1, 1) := by decide +kernel
theorem dL_law_5 : decode cL_law 5 = .ok (.new 27, 3) := by decide +kernel
theorem dL_law_8 : decode cL_law 8 = .ok (.dup, 1) := by decide +kernel
theorem dL_law_9 : decode cL_law 9 = .ok (.invokespecial 242, 3) := by decide +kernel
theorem dL_law_12 : decode cL_law 12 = .ok (.astore_n 2, 1) := by decide +kernel
theorem dL_law_13 : decode cL_law 13 = .ok (.aload_n 2, 1) := by decide +kernel
theorem dL_law_14 : decode cL_law 14 = .ok (.aload_n 1, 1) := by decide +kernel
theorem dL_law_15 : decode cL_law 15 = .ok (.getfield 243, 3) := by decide +kernel
theorem dL_law_18 : decode cL_law 18 = .ok (.invokestatic 247, 3) := by decide +kernel
theorem dL_law_21 : decode cL_law 21 = .ok (.ifCond .eq 19, 3) := by decide +kernel
theorem dL_law_24 : decode cL_law 24 = .ok (.aload_n 2, 1) := by decide +kernel
theorem dL_law_25 : decode cL_law 25 = .ok (.invokevirtual 251, 3) := by decide +kernel
theorem dL_law_28 : decode cL_law 28 = .ok (.aload_n 1, 1) := by decide +kernel
theorem dL_law_29 : decode cL_law 29 = .ok (.getfield 86, 3) := by decide +kernel
theorem dL_law_32 : decode cL_law 32 = .ok (.invokeinterface 89 1, 5) := by decide +kernel
theorem dL_law_37 : decode cL_law 37 = .ok (.if_icmp .eq 5, 3) := by decide +kernel
theorem dL_law_40 : decode cL_law 40 = .ok (.iconst 0, 1) := by decide +kernel
theorem dL_law_41 : decode cL_law 41 = .ok (.ireturn, 1) := by decide +kernel
theorem dL_law_42 : decode cL_law 42 = .ok (.iconst 0, 1) := by decide +kernel
theorem dL_law_43 : decode cL_law 43 = .ok (.istore_n 3, 1) := by decide +kernel
theorem dL_law_44 : decode cL_law 44 = .ok (.iload_n 3, 1) := by decide +kernel
theorem dL_law_45 : decode cL_law 45 = .ok (.bipush 16, 2) := by decide +kernel
theorem dL_law_47 : decode cL_law 47 = .ok (.if_icmp .ge 79, 3) := by decide +kernel
theorem dL_law_50 : decode cL_law 50 = .ok (.aload_n 0, 1) := by decide +kernel
theorem dL_law_51 : decode cL_law 51 = .ok (.sipush 400, 3) := by decide +kernel
theorem dL_law_54 : decode cL_law 54 = .ok (.iload_n 3, 1) := by decide +kernel
theorem dL_law_55 : decode cL_law 55 = .ok (.iadd, 1) := by decide +kernel
theorem dL_law_56 : decode cL_law 56 = .ok (.bipush 13, 2) := by decide +kernel
theorem dL_law_58 : decode cL_law 58 = .ok (.invokestatic 135, 3) := by decide +kernel
theorem dL_law_61 : decode cL_law 61 = .ok (.bipush 6, 2) := by decide +kernel
theorem dL_law_63 : decode cL_law 63 = .ok (.isub, 1) := by decide +kernel
theorem dL_law_64 : decode cL_law 64 = .ok (.istore 4, 2) := by decide +kernel
theorem dL_law_66 : decode cL_law 66 = .ok (.aload_n 2, 1) := by decide +kernel
theorem dL_law_67 : decode cL_law 67 = .ok (.aload_n 1, 1) := by decide +kernel
theorem dL_law_68 : decode cL_law 68 = .ok (.aload_n 0, 1) := by decide +kernel
theorem dL_law_69 : decode cL_law 69 = .ok (.iload_n 3, 1) := by decide +kernel
theorem dL_law_70 : decode cL_law 70 = .ok (.invokestatic 254, 3) := by decide +kernel
theorem dL_law_73 : decode cL_law 73 = .ok (.ifCond .eq 45, 3) := by decide +kernel
theorem dL_law_76 : decode cL_law 76 = .ok (.aload_n 2, 1) := by decide +kernel
theorem dL_law_77 : decode cL_law 77 = .ok (.iload 4, 2) := by decide +kernel
theorem dL_law_79 : decode cL_law 79 = .ok (.iload_n 3, 1) := by decide +kernel
theorem dL_law_80 : decode cL_law 80 = .ok (.iconst 2, 1) := by decide +kernel
theorem dL_law_81 : decode cL_law 81 = .ok (.irem, 1) := by decide +kernel
theorem dL_law_82 : decode cL_law 82 = .ok (.iconst 1, 1) := by decide +kernel
theorem dL_law_83 : decode cL_law 83 = .ok (.if_icmp .ne 7, 3) := by decide +kernel
theorem dL_law_86 : decode cL_law 86 = .ok (.iconst 1, 1) := by decide +kernel
theorem dL_law_87 : decode cL_law 87 = .ok (.goto 4, 3) := by decide +kernel
theorem dL_law_90 : decode cL_law 90 = .ok (.iconst 0, 1) := by decide +kernel
theorem dL_law_91 : decode cL_law 91 = .ok (.invokestatic 258, 3) := by decide +kernel
theorem dL_law_94 : decode cL_law 94 = .ok (.ifCond .eq 24, 3) := by decide +kernel
theorem dL_law_97 : decode cL_law 97 = .ok (.aload_n 2, 1) := by decide +kernel
theorem dL_law_98 : decode cL_law 98 = .ok (.aload_n 1, 1) := by decide +kernel
theorem dL_law_99 : decode cL_law 99 = .ok (.iload 4, 2) := by decide +kernel
theorem dL_law_101 : decode cL_law 101 = .ok (.iload_n 3, 1) := by decide +kernel
theorem dL_law_102 : decode cL_law 102 = .ok (.iconst 2, 1) := by decide +kernel
theorem dL_law_103 : decode cL_law 103 = .ok (.irem, 1) := by decide +kernel
theorem dL_law_104 : decode cL_law 104 = .ok (.ifCond .ne 7, 3) := by decide +kernel
theorem dL_law_107 : decode cL_law 107 = .ok (.iconst 1, 1) := by decide +kernel
theorem dL_law_108 : decode cL_law 108 = .ok (.goto 4, 3) := by decide +kernel
theorem dL_law_111 : decode cL_law 111 = .ok (.iconst 0, 1) := by decide +kernel
theorem dL_law_112 : decode cL_law 112 = .ok (.invokestatic 262, 3) := by decide +kernel
theorem dL_law_115 : decode cL_law 115 = .ok (.ifCond .ne 5, 3) := by decide +kernel
theorem dL_law_118 : decode cL_law 118 = .ok (.iconst 0, 1) := by decide +kernel
theorem dL_law_119 : decode cL_law 119 = .ok (.ireturn, 1) := by decide +kernel
theorem dL_law_120 : decode cL_law 120 = .ok (.iinc 3 1, 3) := by decide +kernel
theorem dL_law_123 : decode cL_law 123 = .ok (.goto (-79), 3) := by decide +kernel
theorem dL_law_126 : decode cL_law 126 = .ok (.iconst 1, 1) := by decide +kernel
theorem dL_law_127 : decode cL_law 127 = .ok (.ireturn, 1) := by decide +kernel
