/-! How the law's instructions read. -/
theorem de_W_law_528 : decode code 528 = .ok (.iload 4, 2) := by decide +kernel
theorem de_W_law_530 : decode code 530 = .ok (.iconst 1, 1) := by decide +kernel
theorem de_W_law_531 : decode code 531 = .ok (.iadd, 1) := by decide +kernel
theorem de_W_law_532 : decode code 532 = .ok (.iaload, 1) := by decide +kernel
theorem de_W_law_533 : decode code 533 = .ok (.aload_n 0, 1) := by decide +kernel
theorem de_W_law_534 : decode code 534 = .ok (.iload 4, 2) := by decide +kernel
theorem de_W_law_536 : decode code 536 = .ok (.iconst 2, 1) := by decide +kernel
theorem de_W_law_537 : decode code 537 = .ok (.iadd, 1) := by decide +kernel
theorem de_W_law_538 : decode code 538 = .ok (.iaload, 1) := by decide +kernel
theorem de_W_law_539 : decode code 539 = .ok (.aload_n 3, 1) := by decide +kernel
theorem de_W_law_540 : decode code 540 = .ok (.invokestatic 73, 3) := by decide +kernel
theorem de_W_law_543 : decode code 543 = .ok (.istore 5, 2) := by decide +kernel
theorem de_W_law_545 : decode code 545 = .ok (.aload_n 2, 1) := by decide +kernel
theorem de_W_law_546 : decode code 546 = .ok (.aload_n 0, 1) := by decide +kernel
theorem de_W_law_547 : decode code 547 = .ok (.iload 4, 2) := by decide +kernel
theorem de_W_law_549 : decode code 549 = .ok (.iconst 1, 1) := by decide +kernel
theorem de_W_law_550 : decode code 550 = .ok (.iadd, 1) := by decide +kernel
theorem de_W_law_551 : decode code 551 = .ok (.iaload, 1) := by decide +kernel
theorem de_W_law_552 : decode code 552 = .ok (.aload_n 0, 1) := by decide +kernel
theorem de_W_law_553 : decode code 553 = .ok (.iload 4, 2) := by decide +kernel
theorem de_W_law_555 : decode code 555 = .ok (.iconst 2, 1) := by decide +kernel
theorem de_W_law_556 : decode code 556 = .ok (.iadd, 1) := by decide +kernel
theorem de_W_law_557 : decode code 557 = .ok (.iaload, 1) := by decide +kernel
theorem de_W_law_558 : decode code 558 = .ok (.invokevirtual 76, 3) := by decide +kernel
theorem de_W_law_561 : decode code 561 = .ok (.istore 6, 2) := by decide +kernel
theorem de_W_law_563 : decode code 563 = .ok (.aload_n 2, 1) := by decide +kernel
theorem de_W_law_564 : decode code 564 = .ok (.invokevirtual 62, 3) := by decide +kernel
theorem de_W_law_567 : decode code 567 = .ok (.iload 5, 2) := by decide +kernel
theorem de_W_law_569 : decode code 569 = .ok (.if_icmp .eq 5, 3) := by decide +kernel
theorem de_W_law_572 : decode code 572 = .ok (.iconst 0, 1) := by decide +kernel
theorem de_W_law_573 : decode code 573 = .ok (.ireturn, 1) := by decide +kernel
theorem de_W_law_574 : decode code 574 = .ok (.iload 5, 2) := by decide +kernel
theorem de_W_law_576 : decode code 576 = .ok (.ifCond .ne 22, 3) := by decide +kernel
theorem de_W_law_579 : decode code 579 = .ok (.aload_n 3, 1) := by decide +kernel
theorem de_W_law_580 : decode code 580 = .ok (.iconst 0, 1) := by decide +kernel
theorem de_W_law_581 : decode code 581 = .ok (.laload, 1) := by decide +kernel
theorem de_W_law_582 : decode code 582 = .ok (.iload 6, 2) := by decide +kernel
theorem de_W_law_584 : decode code 584 = .ok (.ifCond .eq 7, 3) := by decide +kernel
theorem de_W_law_587 : decode code 587 = .ok (.lconst 1, 1) := by decide +kernel
theorem de_W_law_588 : decode code 588 = .ok (.goto 4, 3) := by decide +kernel
theorem de_W_law_591 : decode code 591 = .ok (.lconst 0, 1) := by decide +kernel
theorem de_W_law_592 : decode code 592 = .ok (.lcmp, 1) := by decide +kernel
theorem de_W_law_593 : decode code 593 = .ok (.ifCond .eq 5, 3) := by decide +kernel
theorem de_W_law_596 : decode code 596 = .ok (.iconst 0, 1) := by decide +kernel
theorem de_W_law_597 : decode code 597 = .ok (.ireturn, 1) := by decide +kernel
theorem de_W_law_598 : decode code 598 = .ok (.goto 803, 3) := by decide +kernel
theorem de_W_law_601 : decode code 601 = .ok (.aload_n 1, 1) := by decide +kernel
theorem de_W_law_602 : decode code 602 = .ok (.aload_n 0, 1) := by decide +kernel
theorem de_W_law_603 : decode code 603 = .ok (.iload 4, 2) := by decide +kernel
theorem de_W_law_605 : decode code 605 = .ok (.iconst 1, 1) := by decide +kernel
theorem de_W_law_606 : decode code 606 = .ok (.iadd, 1) := by decide +kernel
theorem de_W_law_607 : decode code 607 = .ok (.iaload, 1) := by decide +kernel
theorem de_W_law_608 : decode code 608 = .ok (.aload_n 0, 1) := by decide +kernel
theorem de_W_law_609 : decode code 609 = .ok (.iload 4, 2) := by decide +kernel
theorem de_W_law_611 : decode code 611 = .ok (.iconst 2, 1) := by decide +kernel
theorem de_W_law_612 : decode code 612 = .ok (.iadd, 1) := by decide +kernel
theorem de_W_law_613 : decode code 613 = .ok (.iaload, 1) := by decide +kernel
theorem de_W_law_614 : decode code 614 = .ok (.invokevirtual 77, 3) := by decide +kernel
theorem de_W_law_617 : decode code 617 = .ok (.aload_n 2, 1) := by decide +kernel
theorem de_W_law_618 : decode code 618 = .ok (.aload_n 0, 1) := by decide +kernel
theorem de_W_law_619 : decode code 619 = .ok (.iload 4, 2) := by decide +kernel
theorem de_W_law_621 : decode code 621 = .ok (.iconst 1, 1) := by decide +kernel
theorem de_W_law_622 : decode code 622 = .ok (.iadd, 1) := by decide +kernel
theorem de_W_law_623 : decode code 623 = .ok (.iaload, 1) := by decide +kernel
theorem de_W_law_624 : decode code 624 = .ok (.aload_n 0, 1) := by decide +kernel
theorem de_W_law_625 : decode code 625 = .ok (.iload 4, 2) := by decide +kernel
theorem de_W_law_627 : decode code 627 = .ok (.iconst 2, 1) := by decide +kernel
theorem de_W_law_628 : decode code 628 = .ok (.iadd, 1) := by decide +kernel
theorem de_W_law_629 : decode code 629 = .ok (.iaload, 1) := by decide +kernel
theorem de_W_law_630 : decode code 630 = .ok (.invokevirtual 80, 3) := by decide +kernel
theorem de_W_law_633 : decode code 633 = .ok (.if_icmp .eq 768, 3) := by decide +kernel
theorem de_W_law_636 : decode code 636 = .ok (.iconst 0, 1) := by decide +kernel
theorem de_W_law_637 : decode code 637 = .ok (.ireturn, 1) := by decide +kernel
theorem de_W_law_638 : decode code 638 = .ok (.aload_n 1, 1) := by decide +kernel
theorem de_W_law_639 : decode code 639 = .ok (.aload_n 0, 1) := by decide +kernel
theorem de_W_law_640 : decode code 640 = .ok (.iload 4, 2) := by decide +kernel
theorem de_W_law_642 : decode code 642 = .ok (.iconst 1, 1) := by decide +kernel
theorem de_W_law_643 : decode code 643 = .ok (.iadd, 1) := by decide +kernel
theorem de_W_law_644 : decode code 644 = .ok (.iaload, 1) := by decide +kernel
theorem de_W_law_645 : decode code 645 = .ok (.aload_n 0, 1) := by decide +kernel
theorem de_W_law_646 : decode code 646 = .ok (.iload 4, 2) := by decide +kernel
theorem de_W_law_648 : decode code 648 = .ok (.iconst 2, 1) := by decide +kernel
theorem de_W_law_649 : decode code 649 = .ok (.iadd, 1) := by decide +kernel
theorem de_W_law_650 : decode code 650 = .ok (.iaload, 1) := by decide +kernel
theorem de_W_law_651 : decode code 651 = .ok (.aload_n 0, 1) := by decide +kernel
theorem de_W_law_652 : decode code 652 = .ok (.iload 4, 2) := by decide +kernel
theorem de_W_law_654 : decode code 654 = .ok (.iconst 3, 1) := by decide +kernel
theorem de_W_law_655 : decode code 655 = .ok (.iadd, 1) := by decide +kernel
theorem de_W_law_656 : decode code 656 = .ok (.iaload, 1) := by decide +kernel
theorem de_W_law_657 : decode code 657 = .ok (.invokevirtual 81, 3) := by decide +kernel
theorem de_W_law_660 : decode code 660 = .ok (.aload_n 2, 1) := by decide +kernel
theorem de_W_law_661 : decode code 661 = .ok (.aload_n 0, 1) := by decide +kernel
theorem de_W_law_662 : decode code 662 = .ok (.iload 4, 2) := by decide +kernel
theorem de_W_law_664 : decode code 664 = .ok (.iconst 1, 1) := by decide +kernel
theorem de_W_law_665 : decode code 665 = .ok (.iadd, 1) := by decide +kernel
theorem de_W_law_666 : decode code 666 = .ok (.iaload, 1) := by decide +kernel
theorem de_W_law_667 : decode code 667 = .ok (.aload_n 0, 1) := by decide +kernel
theorem de_W_law_668 : decode code 668 = .ok (.iload 4, 2) := by decide +kernel
theorem de_W_law_670 : decode code 670 = .ok (.iconst 2, 1) := by decide +kernel
theorem de_W_law_671 : decode code 671 = .ok (.iadd, 1) := by decide +kernel
theorem de_W_law_672 : decode code 672 = .ok (.iaload, 1) := by decide +kernel
theorem de_W_law_673 : decode code 673 = .ok (.aload_n 0, 1) := by decide +kernel
theorem de_W_law_674 : decode code 674 = .ok (.iload 4, 2) := by decide +kernel
theorem de_W_law_676 : decode code 676 = .ok (.iconst 3, 1) := by decide +kernel
theorem de_W_law_677 : decode code 677 = .ok (.iadd, 1) := by decide +kernel
theorem de_W_law_678 : decode code 678 = .ok (.iaload, 1) := by decide +kernel
theorem de_W_law_679 : decode code 679 = .ok (.invokevirtual 85, 3) := by decide +kernel
theorem de_W_law_682 : decode code 682 = .ok (.if_icmp .eq 719, 3) := by decide +kernel
theorem de_W_law_685 : decode code 685 = .ok (.iconst 0, 1) := by decide +kernel
theorem de_W_law_686 : decode code 686 = .ok (.ireturn, 1) := by decide +kernel
theorem de_W_law_687 : decode code 687 = .ok (.aload_n 1, 1) := by decide +kernel
theorem de_W_law_688 : decode code 688 = .ok (.aload_n 0, 1) := by decide +kernel
theorem de_W_law_689 : decode code 689 = .ok (.iload 4, 2) := by decide +kernel
theorem de_W_law_691 : decode code 691 = .ok (.iconst 1, 1) := by decide +kernel
theorem de_W_law_692 : decode code 692 = .ok (.iadd, 1) := by decide +kernel
theorem de_W_law_693 : decode code 693 = .ok (.iaload, 1) := by decide +kernel
theorem de_W_law_694 : decode code 694 = .ok (.aload_n 0, 1) := by decide +kernel
theorem de_W_law_695 : decode code 695 = .ok (.iload 4, 2) := by decide +kernel
theorem de_W_law_697 : decode code 697 = .ok (.iconst 2, 1) := by decide +kernel
theorem de_W_law_698 : decode code 698 = .ok (.iadd, 1) := by decide +kernel
theorem de_W_law_699 : decode code 699 = .ok (.iaload, 1) := by decide +kernel
theorem de_W_law_700 : decode code 700 = .ok (.ifCond .eq 7, 3) := by decide +kernel
theorem de_W_law_703 : decode code 703 = .ok (.iconst 1, 1) := by decide +kernel
theorem de_W_law_704 : decode code 704 = .ok (.goto 4, 3) := by decide +kernel
theorem de_W_law_707 : decode code 707 = .ok (.iconst 0, 1) := by decide +kernel
theorem de_W_law_708 : decode code 708 = .ok (.invokevirtual 86, 3) := by decide +kernel
theorem de_W_law_711 : decode code 711 = .ok (.aload_n 2, 1) := by decide +kernel
theorem de_W_law_712 : decode code 712 = .ok (.aload_n 0, 1) := by decide +kernel
theorem de_W_law_713 : decode code 713 = .ok (.iload 4, 2) := by decide +kernel
theorem de_W_law_715 : decode code 715 = .ok (.iconst 1, 1) := by decide +kernel
theorem de_W_law_716 : decode code 716 = .ok (.iadd, 1) := by decide +kernel
theorem de_W_law_717 : decode code 717 = .ok (.iaload, 1) := by decide +kernel
theorem de_W_law_718 : decode code 718 = .ok (.aload_n 0, 1) := by decide +kernel
theorem de_W_law_719 : decode code 719 = .ok (.iload 4, 2) := by decide +kernel
theorem de_W_law_721 : decode code 721 = .ok (.iconst 2, 1) := by decide +kernel
theorem de_W_law_722 : decode code 722 = .ok (.iadd, 1) := by decide +kernel
theorem de_W_law_723 : decode code 723 = .ok (.iaload, 1) := by decide +kernel
theorem de_W_law_724 : decode code 724 = .ok (.ifCond .eq 7, 3) := by decide +kernel
theorem de_W_law_727 : decode code 727 = .ok (.iconst 1, 1) := by decide +kernel
theorem de_W_law_728 : decode code 728 = .ok (.goto 4, 3) := by decide +kernel
theorem de_W_law_731 : decode code 731 = .ok (.iconst 0, 1) := by decide +kernel
theorem de_W_law_732 : decode code 732 = .ok (.invokevirtual 90, 3) := by decide +kernel
theorem de_W_law_735 : decode code 735 = .ok (.if_icmp .eq 666, 3) := by decide +kernel
theorem de_W_law_738 : decode code 738 = .ok (.iconst 0, 1) := by decide +kernel
theorem de_W_law_739 : decode code 739 = .ok (.ireturn, 1) := by decide +kernel
theorem de_W_law_740 : decode code 740 = .ok (.aload_n 1, 1) := by decide +kernel
theorem de_W_law_741 : decode code 741 = .ok (.aload_n 0, 1) := by decide +kernel
theorem de_W_law_742 : decode code 742 = .ok (.iload 4, 2) := by decide +kernel
theorem de_W_law_744 : decode code 744 = .ok (.iconst 1, 1) := by decide +kernel
theorem de_W_law_745 : decode code 745 = .ok (.iadd, 1) := by decide +kernel
