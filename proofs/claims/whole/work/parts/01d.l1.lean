theorem d_Law_law_500 : decode code 500 = .ok (.iaload, 1) := by decide +kernel
theorem d_Law_law_501 : decode code 501 = .ok (.invokevirtual 51, 3) := by decide +kernel
theorem d_Law_law_504 : decode code 504 = .ok (.if_icmp .eq 962, 3) := by decide +kernel
theorem d_Law_law_507 : decode code 507 = .ok (.iconst 0, 1) := by decide +kernel
theorem d_Law_law_508 : decode code 508 = .ok (.ireturn, 1) := by decide +kernel
theorem d_Law_law_509 : decode code 509 = .ok (.aload_n 1, 1) := by decide +kernel
theorem d_Law_law_510 : decode code 510 = .ok (.aload_n 0, 1) := by decide +kernel
theorem d_Law_law_511 : decode code 511 = .ok (.iload_n 3, 1) := by decide +kernel
theorem d_Law_law_512 : decode code 512 = .ok (.iconst 1, 1) := by decide +kernel
theorem d_Law_law_513 : decode code 513 = .ok (.iadd, 1) := by decide +kernel
theorem d_Law_law_514 : decode code 514 = .ok (.iaload, 1) := by decide +kernel
theorem d_Law_law_515 : decode code 515 = .ok (.aload_n 0, 1) := by decide +kernel
theorem d_Law_law_516 : decode code 516 = .ok (.iload_n 3, 1) := by decide +kernel
theorem d_Law_law_517 : decode code 517 = .ok (.iconst 2, 1) := by decide +kernel
theorem d_Law_law_518 : decode code 518 = .ok (.iadd, 1) := by decide +kernel
theorem d_Law_law_519 : decode code 519 = .ok (.iaload, 1) := by decide +kernel
theorem d_Law_law_520 : decode code 520 = .ok (.aload_n 0, 1) := by decide +kernel
theorem d_Law_law_521 : decode code 521 = .ok (.iload_n 3, 1) := by decide +kernel
theorem d_Law_law_522 : decode code 522 = .ok (.iconst 3, 1) := by decide +kernel
theorem d_Law_law_523 : decode code 523 = .ok (.iadd, 1) := by decide +kernel
theorem d_Law_law_524 : decode code 524 = .ok (.iaload, 1) := by decide +kernel
theorem d_Law_law_525 : decode code 525 = .ok (.invokevirtual 52, 3) := by decide +kernel
theorem d_Law_law_528 : decode code 528 = .ok (.aload_n 2, 1) := by decide +kernel
theorem d_Law_law_529 : decode code 529 = .ok (.aload_n 0, 1) := by decide +kernel
theorem d_Law_law_530 : decode code 530 = .ok (.iload_n 3, 1) := by decide +kernel
theorem d_Law_law_531 : decode code 531 = .ok (.iconst 1, 1) := by decide +kernel
theorem d_Law_law_532 : decode code 532 = .ok (.iadd, 1) := by decide +kernel
theorem d_Law_law_533 : decode code 533 = .ok (.iaload, 1) := by decide +kernel
theorem d_Law_law_534 : decode code 534 = .ok (.aload_n 0, 1) := by decide +kernel
theorem d_Law_law_535 : decode code 535 = .ok (.iload_n 3, 1) := by decide +kernel
theorem d_Law_law_536 : decode code 536 = .ok (.iconst 2, 1) := by decide +kernel
theorem d_Law_law_537 : decode code 537 = .ok (.iadd, 1) := by decide +kernel
theorem d_Law_law_538 : decode code 538 = .ok (.iaload, 1) := by decide +kernel
theorem d_Law_law_539 : decode code 539 = .ok (.aload_n 0, 1) := by decide +kernel
theorem d_Law_law_540 : decode code 540 = .ok (.iload_n 3, 1) := by decide +kernel
theorem d_Law_law_541 : decode code 541 = .ok (.iconst 3, 1) := by decide +kernel
theorem d_Law_law_542 : decode code 542 = .ok (.iadd, 1) := by decide +kernel
theorem d_Law_law_543 : decode code 543 = .ok (.iaload, 1) := by decide +kernel
theorem d_Law_law_544 : decode code 544 = .ok (.invokevirtual 55, 3) := by decide +kernel
theorem d_Law_law_547 : decode code 547 = .ok (.if_icmp .eq 919, 3) := by decide +kernel
theorem d_Law_law_550 : decode code 550 = .ok (.iconst 0, 1) := by decide +kernel
theorem d_Law_law_551 : decode code 551 = .ok (.ireturn, 1) := by decide +kernel
theorem d_Law_law_552 : decode code 552 = .ok (.aload_n 1, 1) := by decide +kernel
theorem d_Law_law_553 : decode code 553 = .ok (.aload_n 0, 1) := by decide +kernel
theorem d_Law_law_554 : decode code 554 = .ok (.iload_n 3, 1) := by decide +kernel
theorem d_Law_law_555 : decode code 555 = .ok (.iconst 1, 1) := by decide +kernel
theorem d_Law_law_556 : decode code 556 = .ok (.iadd, 1) := by decide +kernel
theorem d_Law_law_557 : decode code 557 = .ok (.iaload, 1) := by decide +kernel
theorem d_Law_law_558 : decode code 558 = .ok (.invokevirtual 56, 3) := by decide +kernel
theorem d_Law_law_561 : decode code 561 = .ok (.aload_n 2, 1) := by decide +kernel
theorem d_Law_law_562 : decode code 562 = .ok (.aload_n 0, 1) := by decide +kernel
theorem d_Law_law_563 : decode code 563 = .ok (.iload_n 3, 1) := by decide +kernel
theorem d_Law_law_564 : decode code 564 = .ok (.iconst 1, 1) := by decide +kernel
theorem d_Law_law_565 : decode code 565 = .ok (.iadd, 1) := by decide +kernel
theorem d_Law_law_566 : decode code 566 = .ok (.iaload, 1) := by decide +kernel
theorem d_Law_law_567 : decode code 567 = .ok (.invokevirtual 59, 3) := by decide +kernel
theorem d_Law_law_570 : decode code 570 = .ok (.if_icmp .eq 896, 3) := by decide +kernel
theorem d_Law_law_573 : decode code 573 = .ok (.iconst 0, 1) := by decide +kernel
theorem d_Law_law_574 : decode code 574 = .ok (.ireturn, 1) := by decide +kernel
theorem d_Law_law_575 : decode code 575 = .ok (.aload_n 1, 1) := by decide +kernel
theorem d_Law_law_576 : decode code 576 = .ok (.aload_n 0, 1) := by decide +kernel
theorem d_Law_law_577 : decode code 577 = .ok (.iload_n 3, 1) := by decide +kernel
theorem d_Law_law_578 : decode code 578 = .ok (.iconst 1, 1) := by decide +kernel
theorem d_Law_law_579 : decode code 579 = .ok (.iadd, 1) := by decide +kernel
theorem d_Law_law_580 : decode code 580 = .ok (.iaload, 1) := by decide +kernel
theorem d_Law_law_581 : decode code 581 = .ok (.aload_n 0, 1) := by decide +kernel
theorem d_Law_law_582 : decode code 582 = .ok (.iload_n 3, 1) := by decide +kernel
theorem d_Law_law_583 : decode code 583 = .ok (.iconst 2, 1) := by decide +kernel
theorem d_Law_law_584 : decode code 584 = .ok (.iadd, 1) := by decide +kernel
theorem d_Law_law_585 : decode code 585 = .ok (.iaload, 1) := by decide +kernel
theorem d_Law_law_586 : decode code 586 = .ok (.invokevirtual 60, 3) := by decide +kernel
theorem d_Law_law_589 : decode code 589 = .ok (.aload_n 2, 1) := by decide +kernel
theorem d_Law_law_590 : decode code 590 = .ok (.aload_n 0, 1) := by decide +kernel
theorem d_Law_law_591 : decode code 591 = .ok (.iload_n 3, 1) := by decide +kernel
theorem d_Law_law_592 : decode code 592 = .ok (.iconst 1, 1) := by decide +kernel
theorem d_Law_law_593 : decode code 593 = .ok (.iadd, 1) := by decide +kernel
theorem d_Law_law_594 : decode code 594 = .ok (.iaload, 1) := by decide +kernel
theorem d_Law_law_595 : decode code 595 = .ok (.aload_n 0, 1) := by decide +kernel
theorem d_Law_law_596 : decode code 596 = .ok (.iload_n 3, 1) := by decide +kernel
theorem d_Law_law_597 : decode code 597 = .ok (.iconst 2, 1) := by decide +kernel
theorem d_Law_law_598 : decode code 598 = .ok (.iadd, 1) := by decide +kernel
theorem d_Law_law_599 : decode code 599 = .ok (.iaload, 1) := by decide +kernel
theorem d_Law_law_600 : decode code 600 = .ok (.invokevirtual 63, 3) := by decide +kernel
theorem d_Law_law_603 : decode code 603 = .ok (.if_icmp .eq 863, 3) := by decide +kernel
theorem d_Law_law_606 : decode code 606 = .ok (.iconst 0, 1) := by decide +kernel
theorem d_Law_law_607 : decode code 607 = .ok (.ireturn, 1) := by decide +kernel
theorem d_Law_law_608 : decode code 608 = .ok (.aload_n 1, 1) := by decide +kernel
theorem d_Law_law_609 : decode code 609 = .ok (.aload_n 0, 1) := by decide +kernel
theorem d_Law_law_610 : decode code 610 = .ok (.iload_n 3, 1) := by decide +kernel
theorem d_Law_law_611 : decode code 611 = .ok (.iconst 1, 1) := by decide +kernel
theorem d_Law_law_612 : decode code 612 = .ok (.iadd, 1) := by decide +kernel
theorem d_Law_law_613 : decode code 613 = .ok (.iaload, 1) := by decide +kernel
theorem d_Law_law_614 : decode code 614 = .ok (.invokevirtual 64, 3) := by decide +kernel
theorem d_Law_law_617 : decode code 617 = .ok (.aload_n 2, 1) := by decide +kernel
theorem d_Law_law_618 : decode code 618 = .ok (.aload_n 0, 1) := by decide +kernel
theorem d_Law_law_619 : decode code 619 = .ok (.iload_n 3, 1) := by decide +kernel
theorem d_Law_law_620 : decode code 620 = .ok (.iconst 1, 1) := by decide +kernel
theorem d_Law_law_621 : decode code 621 = .ok (.iadd, 1) := by decide +kernel
theorem d_Law_law_622 : decode code 622 = .ok (.iaload, 1) := by decide +kernel
theorem d_Law_law_623 : decode code 623 = .ok (.invokevirtual 67, 3) := by decide +kernel
theorem d_Law_law_626 : decode code 626 = .ok (.if_icmp .eq 840, 3) := by decide +kernel
theorem d_Law_law_629 : decode code 629 = .ok (.iconst 0, 1) := by decide +kernel
theorem d_Law_law_630 : decode code 630 = .ok (.ireturn, 1) := by decide +kernel
theorem d_Law_law_631 : decode code 631 = .ok (.aload_n 1, 1) := by decide +kernel
theorem d_Law_law_632 : decode code 632 = .ok (.aload_n 0, 1) := by decide +kernel
theorem d_Law_law_633 : decode code 633 = .ok (.iload_n 3, 1) := by decide +kernel
theorem d_Law_law_634 : decode code 634 = .ok (.iconst 1, 1) := by decide +kernel
theorem d_Law_law_635 : decode code 635 = .ok (.iadd, 1) := by decide +kernel
theorem d_Law_law_636 : decode code 636 = .ok (.iaload, 1) := by decide +kernel
theorem d_Law_law_637 : decode code 637 = .ok (.invokevirtual 68, 3) := by decide +kernel
theorem d_Law_law_640 : decode code 640 = .ok (.aload_n 2, 1) := by decide +kernel
theorem d_Law_law_641 : decode code 641 = .ok (.aload_n 0, 1) := by decide +kernel
theorem d_Law_law_642 : decode code 642 = .ok (.iload_n 3, 1) := by decide +kernel
theorem d_Law_law_643 : decode code 643 = .ok (.iconst 1, 1) := by decide +kernel
theorem d_Law_law_644 : decode code 644 = .ok (.iadd, 1) := by decide +kernel
theorem d_Law_law_645 : decode code 645 = .ok (.iaload, 1) := by decide +kernel
theorem d_Law_law_646 : decode code 646 = .ok (.invokevirtual 71, 3) := by decide +kernel
theorem d_Law_law_649 : decode code 649 = .ok (.if_icmp .eq 817, 3) := by decide +kernel
theorem d_Law_law_652 : decode code 652 = .ok (.iconst 0, 1) := by decide +kernel
theorem d_Law_law_653 : decode code 653 = .ok (.ireturn, 1) := by decide +kernel
theorem d_Law_law_654 : decode code 654 = .ok (.aload_n 1, 1) := by decide +kernel
theorem d_Law_law_655 : decode code 655 = .ok (.aload_n 0, 1) := by decide +kernel
theorem d_Law_law_656 : decode code 656 = .ok (.iload_n 3, 1) := by decide +kernel
theorem d_Law_law_657 : decode code 657 = .ok (.iconst 1, 1) := by decide +kernel
theorem d_Law_law_658 : decode code 658 = .ok (.iadd, 1) := by decide +kernel
theorem d_Law_law_659 : decode code 659 = .ok (.iaload, 1) := by decide +kernel
theorem d_Law_law_660 : decode code 660 = .ok (.aload_n 0, 1) := by decide +kernel
theorem d_Law_law_661 : decode code 661 = .ok (.iload_n 3, 1) := by decide +kernel
theorem d_Law_law_662 : decode code 662 = .ok (.iconst 2, 1) := by decide +kernel
theorem d_Law_law_663 : decode code 663 = .ok (.iadd, 1) := by decide +kernel
theorem d_Law_law_664 : decode code 664 = .ok (.iaload, 1) := by decide +kernel
theorem d_Law_law_665 : decode code 665 = .ok (.aload_n 0, 1) := by decide +kernel
theorem d_Law_law_666 : decode code 666 = .ok (.iload_n 3, 1) := by decide +kernel
theorem d_Law_law_667 : decode code 667 = .ok (.iconst 3, 1) := by decide +kernel
theorem d_Law_law_668 : decode code 668 = .ok (.iadd, 1) := by decide +kernel
theorem d_Law_law_669 : decode code 669 = .ok (.iaload, 1) := by decide +kernel
theorem d_Law_law_670 : decode code 670 = .ok (.invokevirtual 72, 3) := by decide +kernel
theorem d_Law_law_673 : decode code 673 = .ok (.aload_n 2, 1) := by decide +kernel
theorem d_Law_law_674 : decode code 674 = .ok (.aload_n 0, 1) := by decide +kernel
theorem d_Law_law_675 : decode code 675 = .ok (.iload_n 3, 1) := by decide +kernel
theorem d_Law_law_676 : decode code 676 = .ok (.iconst 1, 1) := by decide +kernel
theorem d_Law_law_677 : decode code 677 = .ok (.iadd, 1) := by decide +kernel
theorem d_Law_law_678 : decode code 678 = .ok (.iaload, 1) := by decide +kernel
theorem d_Law_law_679 : decode code 679 = .ok (.aload_n 0, 1) := by decide +kernel
theorem d_Law_law_680 : decode code 680 = .ok (.iload_n 3, 1) := by decide +kernel
theorem d_Law_law_681 : decode code 681 = .ok (.iconst 2, 1) := by decide +kernel
theorem d_Law_law_682 : decode code 682 = .ok (.iadd, 1) := by decide +kernel
theorem d_Law_law_683 : decode code 683 = .ok (.iaload, 1) := by decide +kernel
theorem d_Law_law_684 : decode code 684 = .ok (.aload_n 0, 1) := by decide +kernel
theorem d_Law_law_685 : decode code 685 = .ok (.iload_n 3, 1) := by decide +kernel
theorem d_Law_law_686 : decode code 686 = .ok (.iconst 3, 1) := by decide +kernel
theorem d_Law_law_687 : decode code 687 = .ok (.iadd, 1) := by decide +kernel
theorem d_Law_law_688 : decode code 688 = .ok (.iaload, 1) := by decide +kernel
theorem d_Law_law_689 : decode code 689 = .ok (.invokevirtual 75, 3) := by decide +kernel
theorem d_Law_law_692 : decode code 692 = .ok (.if_icmp .eq 774, 3) := by decide +kernel
theorem d_Law_law_695 : decode code 695 = .ok (.iconst 0, 1) := by decide +kernel
theorem d_Law_law_696 : decode code 696 = .ok (.ireturn, 1) := by decide +kernel
theorem d_Law_law_697 : decode code 697 = .ok (.aload_n 1, 1) := by decide +kernel
theorem d_Law_law_698 : decode code 698 = .ok (.aload_n 0, 1) := by decide +kernel
theorem d_Law_law_699 : decode code 699 = .ok (.iload_n 3, 1) := by decide +kernel
theorem d_Law_law_700 : decode code 700 = .ok (.iconst 1, 1) := by decide +kernel
theorem d_Law_law_701 : decode code 701 = .ok (.iadd, 1) := by decide +kernel
theorem d_Law_law_702 : decode code 702 = .ok (.iaload, 1) := by decide +kernel
theorem d_Law_law_703 : decode code 703 = .ok (.aload_n 0, 1) := by decide +kernel
theorem d_Law_law_704 : decode code 704 = .ok (.iload_n 3, 1) := by decide +kernel
theorem d_Law_law_705 : decode code 705 = .ok (.iconst 2, 1) := by decide +kernel
theorem d_Law_law_706 : decode code 706 = .ok (.iadd, 1) := by decide +kernel
theorem d_Law_law_707 : decode code 707 = .ok (.iaload, 1) := by decide +kernel
theorem d_Law_law_708 : decode code 708 = .ok (.invokevirtual 76, 3) := by decide +kernel
theorem d_Law_law_711 : decode code 711 = .ok (.aload_n 2, 1) := by decide +kernel
theorem d_Law_law_712 : decode code 712 = .ok (.aload_n 0, 1) := by decide +kernel
theorem d_Law_law_713 : decode code 713 = .ok (.iload_n 3, 1) := by decide +kernel
theorem d_Law_law_714 : decode code 714 = .ok (.iconst 1, 1) := by decide +kernel
theorem d_Law_law_715 : decode code 715 = .ok (.iadd, 1) := by decide +kernel
theorem d_Law_law_716 : decode code 716 = .ok (.iaload, 1) := by decide +kernel
theorem d_Law_law_717 : decode code 717 = .ok (.aload_n 0, 1) := by decide +kernel
theorem d_Law_law_718 : decode code 718 = .ok (.iload_n 3, 1) := by decide +kernel
theorem d_Law_law_719 : decode code 719 = .ok (.iconst 2, 1) := by decide +kernel
theorem d_Law_law_720 : decode code 720 = .ok (.iadd, 1) := by decide +kernel
theorem d_Law_law_721 : decode code 721 = .ok (.iaload, 1) := by decide +kernel
theorem d_Law_law_722 : decode code 722 = .ok (.invokevirtual 79, 3) := by decide +kernel
theorem d_Law_law_725 : decode code 725 = .ok (.if_icmp .eq 741, 3) := by decide +kernel
theorem d_Law_law_728 : decode code 728 = .ok (.iconst 0, 1) := by decide +kernel
theorem d_Law_law_729 : decode code 729 = .ok (.ireturn, 1) := by decide +kernel
theorem d_Law_law_730 : decode code 730 = .ok (.aload_n 1, 1) := by decide +kernel
theorem d_Law_law_731 : decode code 731 = .ok (.aload_n 0, 1) := by decide +kernel
theorem d_Law_law_732 : decode code 732 = .ok (.iload_n 3, 1) := by decide +kernel
theorem d_Law_law_733 : decode code 733 = .ok (.iconst 1, 1) := by decide +kernel
theorem d_Law_law_734 : decode code 734 = .ok (.iadd, 1) := by decide +kernel
theorem d_Law_law_735 : decode code 735 = .ok (.iaload, 1) := by decide +kernel
theorem d_Law_law_736 : decode code 736 = .ok (.invokevirtual 80, 3) := by decide +kernel
theorem d_Law_law_739 : decode code 739 = .ok (.aload_n 2, 1) := by decide +kernel
theorem d_Law_law_740 : decode code 740 = .ok (.aload_n 0, 1) := by decide +kernel
theorem d_Law_law_741 : decode code 741 = .ok (.iload_n 3, 1) := by decide +kernel
theorem d_Law_law_742 : decode code 742 = .ok (.iconst 1, 1) := by decide +kernel
theorem d_Law_law_743 : decode code 743 = .ok (.iadd, 1) := by decide +kernel
theorem d_Law_law_744 : decode code 744 = .ok (.iaload, 1) := by decide +kernel
theorem d_Law_law_745 : decode code 745 = .ok (.invokevirtual 83, 3) := by decide +kernel
theorem d_Law_law_748 : decode code 748 = .ok (.if_icmp .eq 718, 3) := by decide +kernel
theorem d_Law_law_751 : decode code 751 = .ok (.iconst 0, 1) := by decide +kernel
theorem d_Law_law_752 : decode code 752 = .ok (.ireturn, 1) := by decide +kernel
theorem d_Law_law_753 : decode code 753 = .ok (.aload_n 1, 1) := by decide +kernel
theorem d_Law_law_754 : decode code 754 = .ok (.aload_n 0, 1) := by decide +kernel
theorem d_Law_law_755 : decode code 755 = .ok (.iload_n 3, 1) := by decide +kernel
theorem d_Law_law_756 : decode code 756 = .ok (.iconst 1, 1) := by decide +kernel
theorem d_Law_law_757 : decode code 757 = .ok (.iadd, 1) := by decide +kernel
theorem d_Law_law_758 : decode code 758 = .ok (.iaload, 1) := by decide +kernel
theorem d_Law_law_759 : decode code 759 = .ok (.invokevirtual 84, 3) := by decide +kernel
theorem d_Law_law_762 : decode code 762 = .ok (.aload_n 2, 1) := by decide +kernel
theorem d_Law_law_763 : decode code 763 = .ok (.aload_n 0, 1) := by decide +kernel
theorem d_Law_law_764 : decode code 764 = .ok (.iload_n 3, 1) := by decide +kernel
theorem d_Law_law_765 : decode code 765 = .ok (.iconst 1, 1) := by decide +kernel
theorem d_Law_law_766 : decode code 766 = .ok (.iadd, 1) := by decide +kernel
theorem d_Law_law_767 : decode code 767 = .ok (.iaload, 1) := by decide +kernel
theorem d_Law_law_768 : decode code 768 = .ok (.invokevirtual 87, 3) := by decide +kernel
theorem d_Law_law_771 : decode code 771 = .ok (.if_icmp .eq 695, 3) := by decide +kernel
theorem d_Law_law_774 : decode code 774 = .ok (.iconst 0, 1) := by decide +kernel
theorem d_Law_law_775 : decode code 775 = .ok (.ireturn, 1) := by decide +kernel
theorem d_Law_law_776 : decode code 776 = .ok (.aload_n 1, 1) := by decide +kernel
theorem d_Law_law_777 : decode code 777 = .ok (.aload_n 0, 1) := by decide +kernel
theorem d_Law_law_778 : decode code 778 = .ok (.iload_n 3, 1) := by decide +kernel
theorem d_Law_law_779 : decode code 779 = .ok (.iconst 1, 1) := by decide +kernel
theorem d_Law_law_780 : decode code 780 = .ok (.iadd, 1) := by decide +kernel
theorem d_Law_law_781 : decode code 781 = .ok (.iaload, 1) := by decide +kernel
theorem d_Law_law_782 : decode code 782 = .ok (.invokevirtual 88, 3) := by decide +kernel
theorem d_Law_law_785 : decode code 785 = .ok (.aload_n 2, 1) := by decide +kernel
theorem d_Law_law_786 : decode code 786 = .ok (.aload_n 0, 1) := by decide +kernel
theorem d_Law_law_787 : decode code 787 = .ok (.iload_n 3, 1) := by decide +kernel
theorem d_Law_law_788 : decode code 788 = .ok (.iconst 1, 1) := by decide +kernel
theorem d_Law_law_789 : decode code 789 = .ok (.iadd, 1) := by decide +kernel
theorem d_Law_law_790 : decode code 790 = .ok (.iaload, 1) := by decide +kernel
theorem d_Law_law_791 : decode code 791 = .ok (.invokevirtual 91, 3) := by decide +kernel
theorem d_Law_law_794 : decode code 794 = .ok (.if_icmp .eq 672, 3) := by decide +kernel
theorem d_Law_law_797 : decode code 797 = .ok (.iconst 0, 1) := by decide +kernel
theorem d_Law_law_798 : decode code 798 = .ok (.ireturn, 1) := by decide +kernel
theorem d_Law_law_799 : decode code 799 = .ok (.aload_n 1, 1) := by decide +kernel
theorem d_Law_law_800 : decode code 800 = .ok (.aload_n 0, 1) := by decide +kernel
theorem d_Law_law_801 : decode code 801 = .ok (.iload_n 3, 1) := by decide +kernel
theorem d_Law_law_802 : decode code 802 = .ok (.iconst 1, 1) := by decide +kernel
theorem d_Law_law_803 : decode code 803 = .ok (.iadd, 1) := by decide +kernel
theorem d_Law_law_804 : decode code 804 = .ok (.iaload, 1) := by decide +kernel
theorem d_Law_law_805 : decode code 805 = .ok (.aload_n 0, 1) := by decide +kernel
theorem d_Law_law_806 : decode code 806 = .ok (.iload_n 3, 1) := by decide +kernel
theorem d_Law_law_807 : decode code 807 = .ok (.iconst 2, 1) := by decide +kernel
theorem d_Law_law_808 : decode code 808 = .ok (.iadd, 1) := by decide +kernel
theorem d_Law_law_809 : decode code 809 = .ok (.iaload, 1) := by decide +kernel
theorem d_Law_law_810 : decode code 810 = .ok (.invokevirtual 92, 3) := by decide +kernel
theorem d_Law_law_813 : decode code 813 = .ok (.aload_n 2, 1) := by decide +kernel
theorem d_Law_law_814 : decode code 814 = .ok (.aload_n 0, 1) := by decide +kernel
theorem d_Law_law_815 : decode code 815 = .ok (.iload_n 3, 1) := by decide +kernel
theorem d_Law_law_816 : decode code 816 = .ok (.iconst 1, 1) := by decide +kernel
theorem d_Law_law_817 : decode code 817 = .ok (.iadd, 1) := by decide +kernel
theorem d_Law_law_818 : decode code 818 = .ok (.iaload, 1) := by decide +kernel
theorem d_Law_law_819 : decode code 819 = .ok (.aload_n 0, 1) := by decide +kernel
theorem d_Law_law_820 : decode code 820 = .ok (.iload_n 3, 1) := by decide +kernel
theorem d_Law_law_821 : decode code 821 = .ok (.iconst 2, 1) := by decide +kernel
theorem d_Law_law_822 : decode code 822 = .ok (.iadd, 1) := by decide +kernel
theorem d_Law_law_823 : decode code 823 = .ok (.iaload, 1) := by decide +kernel
theorem d_Law_law_824 : decode code 824 = .ok (.invokevirtual 95, 3) := by decide +kernel
theorem d_Law_law_827 : decode code 827 = .ok (.if_icmp .eq 639, 3) := by decide +kernel
