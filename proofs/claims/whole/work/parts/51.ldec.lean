theorem dL_520 : decode code 520 = .ok (.iadd, 1) := by decide +kernel
theorem dL_521 : decode code 521 = .ok (.iaload, 1) := by decide +kernel
theorem dL_522 : decode code 522 = .ok (.i2l, 1) := by decide +kernel
theorem dL_523 : decode code 523 = .ok (.bipush 32, 2) := by decide +kernel
theorem dL_525 : decode code 525 = .ok (.lshl, 1) := by decide +kernel
theorem dL_526 : decode code 526 = .ok (.aload_n 0, 1) := by decide +kernel
theorem dL_527 : decode code 527 = .ok (.iload 4, 2) := by decide +kernel
theorem dL_529 : decode code 529 = .ok (.iconst 2, 1) := by decide +kernel
theorem dL_530 : decode code 530 = .ok (.iadd, 1) := by decide +kernel
theorem dL_531 : decode code 531 = .ok (.iaload, 1) := by decide +kernel
theorem dL_532 : decode code 532 = .ok (.i2l, 1) := by decide +kernel
theorem dL_533 : decode code 533 = .ok (.ldc2_w 112, 3) := by decide +kernel
theorem dL_536 : decode code 536 = .ok (.land, 1) := by decide +kernel
theorem dL_537 : decode code 537 = .ok (.lor, 1) := by decide +kernel
theorem dL_538 : decode code 538 = .ok (.aload_n 0, 1) := by decide +kernel
theorem dL_539 : decode code 539 = .ok (.iload 4, 2) := by decide +kernel
theorem dL_541 : decode code 541 = .ok (.iconst 3, 1) := by decide +kernel
theorem dL_542 : decode code 542 = .ok (.iadd, 1) := by decide +kernel
theorem dL_543 : decode code 543 = .ok (.iaload, 1) := by decide +kernel
theorem dL_544 : decode code 544 = .ok (.invokevirtual 132, 3) := by decide +kernel
theorem dL_547 : decode code 547 = .ok (.istore 6, 2) := by decide +kernel
theorem dL_549 : decode code 549 = .ok (.aload_n 2, 1) := by decide +kernel
theorem dL_550 : decode code 550 = .ok (.invokevirtual 109, 3) := by decide +kernel
theorem dL_553 : decode code 553 = .ok (.iload 5, 2) := by decide +kernel
theorem dL_555 : decode code 555 = .ok (.if_icmp .eq 5, 3) := by decide +kernel
theorem dL_560 : decode code 560 = .ok (.iload 5, 2) := by decide +kernel
theorem dL_562 : decode code 562 = .ok (.ifCond .ne 15, 3) := by decide +kernel
theorem dL_565 : decode code 565 = .ok (.aload_n 3, 1) := by decide +kernel
theorem dL_566 : decode code 566 = .ok (.iconst 0, 1) := by decide +kernel
theorem dL_567 : decode code 567 = .ok (.laload, 1) := by decide +kernel
theorem dL_568 : decode code 568 = .ok (.iload 6, 2) := by decide +kernel
theorem dL_570 : decode code 570 = .ok (.i2l, 1) := by decide +kernel
theorem dL_571 : decode code 571 = .ok (.lcmp, 1) := by decide +kernel
theorem dL_572 : decode code 572 = .ok (.ifCond .eq 5, 3) := by decide +kernel
theorem dL_577 : decode code 577 = .ok (.goto 1035, 3) := by decide +kernel
theorem dL_580 : decode code 580 = .ok (.aload_n 1, 1) := by decide +kernel
theorem dL_581 : decode code 581 = .ok (.aload_n 0, 1) := by decide +kernel
theorem dL_582 : decode code 582 = .ok (.iload 4, 2) := by decide +kernel
theorem dL_584 : decode code 584 = .ok (.iconst 1, 1) := by decide +kernel
theorem dL_585 : decode code 585 = .ok (.iadd, 1) := by decide +kernel
theorem dL_586 : decode code 586 = .ok (.iaload, 1) := by decide +kernel
theorem dL_587 : decode code 587 = .ok (.aload_n 3, 1) := by decide +kernel
theorem dL_588 : decode code 588 = .ok (.invokestatic 133, 3) := by decide +kernel
theorem dL_591 : decode code 591 = .ok (.istore 5, 2) := by decide +kernel
theorem dL_593 : decode code 593 = .ok (.aload_n 2, 1) := by decide +kernel
theorem dL_594 : decode code 594 = .ok (.aload_n 0, 1) := by decide +kernel
theorem dL_595 : decode code 595 = .ok (.iload 4, 2) := by decide +kernel
theorem dL_597 : decode code 597 = .ok (.iconst 1, 1) := by decide +kernel
theorem dL_598 : decode code 598 = .ok (.iadd, 1) := by decide +kernel
theorem dL_599 : decode code 599 = .ok (.iaload, 1) := by decide +kernel
theorem dL_600 : decode code 600 = .ok (.invokevirtual 135, 3) := by decide +kernel
theorem dL_603 : decode code 603 = .ok (.istore 6, 2) := by decide +kernel
theorem dL_605 : decode code 605 = .ok (.aload_n 2, 1) := by decide +kernel
theorem dL_606 : decode code 606 = .ok (.invokevirtual 109, 3) := by decide +kernel
theorem dL_609 : decode code 609 = .ok (.iload 5, 2) := by decide +kernel
theorem dL_611 : decode code 611 = .ok (.if_icmp .eq 5, 3) := by decide +kernel
theorem dL_616 : decode code 616 = .ok (.iload 5, 2) := by decide +kernel
theorem dL_618 : decode code 618 = .ok (.ifCond .ne 15, 3) := by decide +kernel
theorem dL_621 : decode code 621 = .ok (.aload_n 3, 1) := by decide +kernel
theorem dL_622 : decode code 622 = .ok (.iconst 0, 1) := by decide +kernel
theorem dL_623 : decode code 623 = .ok (.laload, 1) := by decide +kernel
theorem dL_624 : decode code 624 = .ok (.iload 6, 2) := by decide +kernel
theorem dL_626 : decode code 626 = .ok (.i2l, 1) := by decide +kernel
theorem dL_627 : decode code 627 = .ok (.lcmp, 1) := by decide +kernel
theorem dL_628 : decode code 628 = .ok (.ifCond .eq 5, 3) := by decide +kernel
theorem dL_633 : decode code 633 = .ok (.goto 979, 3) := by decide +kernel
theorem dL_636 : decode code 636 = .ok (.aload_n 1, 1) := by decide +kernel
theorem dL_637 : decode code 637 = .ok (.aload_n 0, 1) := by decide +kernel
theorem dL_638 : decode code 638 = .ok (.iload 4, 2) := by decide +kernel
theorem dL_640 : decode code 640 = .ok (.iconst 1, 1) := by decide +kernel
theorem dL_641 : decode code 641 = .ok (.iadd, 1) := by decide +kernel
theorem dL_642 : decode code 642 = .ok (.iaload, 1) := by decide +kernel
theorem dL_643 : decode code 643 = .ok (.aload_n 0, 1) := by decide +kernel
theorem dL_644 : decode code 644 = .ok (.iload 4, 2) := by decide +kernel
theorem dL_646 : decode code 646 = .ok (.iconst 2, 1) := by decide +kernel
theorem dL_647 : decode code 647 = .ok (.iadd, 1) := by decide +kernel
theorem dL_648 : decode code 648 = .ok (.iaload, 1) := by decide +kernel
theorem dL_649 : decode code 649 = .ok (.invokestatic 136, 3) := by decide +kernel
theorem dL_652 : decode code 652 = .ok (.istore 5, 2) := by decide +kernel
theorem dL_654 : decode code 654 = .ok (.aload_n 2, 1) := by decide +kernel
theorem dL_655 : decode code 655 = .ok (.aload_n 0, 1) := by decide +kernel
theorem dL_656 : decode code 656 = .ok (.iload 4, 2) := by decide +kernel
theorem dL_658 : decode code 658 = .ok (.iconst 1, 1) := by decide +kernel
theorem dL_659 : decode code 659 = .ok (.iadd, 1) := by decide +kernel
theorem dL_660 : decode code 660 = .ok (.iaload, 1) := by decide +kernel
theorem dL_661 : decode code 661 = .ok (.aload_n 0, 1) := by decide +kernel
theorem dL_662 : decode code 662 = .ok (.iload 4, 2) := by decide +kernel
theorem dL_664 : decode code 664 = .ok (.iconst 2, 1) := by decide +kernel
theorem dL_665 : decode code 665 = .ok (.iadd, 1) := by decide +kernel
theorem dL_666 : decode code 666 = .ok (.iaload, 1) := by decide +kernel
theorem dL_667 : decode code 667 = .ok (.invokevirtual 139, 3) := by decide +kernel
theorem dL_670 : decode code 670 = .ok (.aload_n 2, 1) := by decide +kernel
theorem dL_671 : decode code 671 = .ok (.invokevirtual 109, 3) := by decide +kernel
theorem dL_674 : decode code 674 = .ok (.iload 5, 2) := by decide +kernel
theorem dL_676 : decode code 676 = .ok (.if_icmp .eq 5, 3) := by decide +kernel
theorem dL_681 : decode code 681 = .ok (.goto 931, 3) := by decide +kernel
theorem dL_684 : decode code 684 = .ok (.aload_n 1, 1) := by decide +kernel
theorem dL_685 : decode code 685 = .ok (.aload_n 0, 1) := by decide +kernel
theorem dL_686 : decode code 686 = .ok (.iload 4, 2) := by decide +kernel
theorem dL_688 : decode code 688 = .ok (.iconst 1, 1) := by decide +kernel
theorem dL_689 : decode code 689 = .ok (.iadd, 1) := by decide +kernel
theorem dL_690 : decode code 690 = .ok (.iaload, 1) := by decide +kernel
theorem dL_691 : decode code 691 = .ok (.aload_n 0, 1) := by decide +kernel
theorem dL_692 : decode code 692 = .ok (.iload 4, 2) := by decide +kernel
theorem dL_694 : decode code 694 = .ok (.iconst 2, 1) := by decide +kernel
theorem dL_695 : decode code 695 = .ok (.iadd, 1) := by decide +kernel
theorem dL_696 : decode code 696 = .ok (.iaload, 1) := by decide +kernel
theorem dL_697 : decode code 697 = .ok (.aload_n 3, 1) := by decide +kernel
theorem dL_698 : decode code 698 = .ok (.invokestatic 140, 3) := by decide +kernel
theorem dL_701 : decode code 701 = .ok (.istore 5, 2) := by decide +kernel
theorem dL_703 : decode code 703 = .ok (.aload_n 2, 1) := by decide +kernel
theorem dL_704 : decode code 704 = .ok (.aload_n 0, 1) := by decide +kernel
theorem dL_705 : decode code 705 = .ok (.iload 4, 2) := by decide +kernel
theorem dL_707 : decode code 707 = .ok (.iconst 1, 1) := by decide +kernel
theorem dL_708 : decode code 708 = .ok (.iadd, 1) := by decide +kernel
theorem dL_709 : decode code 709 = .ok (.iaload, 1) := by decide +kernel
theorem dL_710 : decode code 710 = .ok (.aload_n 0, 1) := by decide +kernel
theorem dL_711 : decode code 711 = .ok (.iload 4, 2) := by decide +kernel
theorem dL_713 : decode code 713 = .ok (.iconst 2, 1) := by decide +kernel
theorem dL_714 : decode code 714 = .ok (.iadd, 1) := by decide +kernel
theorem dL_715 : decode code 715 = .ok (.iaload, 1) := by decide +kernel
theorem dL_716 : decode code 716 = .ok (.invokevirtual 142, 3) := by decide +kernel
theorem dL_719 : decode code 719 = .ok (.istore 6, 2) := by decide +kernel
theorem dL_721 : decode code 721 = .ok (.aload_n 2, 1) := by decide +kernel
theorem dL_722 : decode code 722 = .ok (.invokevirtual 109, 3) := by decide +kernel
theorem dL_725 : decode code 725 = .ok (.iload 5, 2) := by decide +kernel
theorem dL_727 : decode code 727 = .ok (.if_icmp .eq 5, 3) := by decide +kernel
theorem dL_732 : decode code 732 = .ok (.iload 5, 2) := by decide +kernel
theorem dL_734 : decode code 734 = .ok (.ifCond .ne 15, 3) := by decide +kernel
theorem dL_737 : decode code 737 = .ok (.aload_n 3, 1) := by decide +kernel
theorem dL_738 : decode code 738 = .ok (.iconst 0, 1) := by decide +kernel
theorem dL_739 : decode code 739 = .ok (.laload, 1) := by decide +kernel
theorem dL_740 : decode code 740 = .ok (.iload 6, 2) := by decide +kernel
theorem dL_742 : decode code 742 = .ok (.i2l, 1) := by decide +kernel
theorem dL_743 : decode code 743 = .ok (.lcmp, 1) := by decide +kernel
theorem dL_744 : decode code 744 = .ok (.ifCond .eq 5, 3) := by decide +kernel
theorem dL_749 : decode code 749 = .ok (.goto 863, 3) := by decide +kernel
theorem dL_752 : decode code 752 = .ok (.aload_n 1, 1) := by decide +kernel
theorem dL_753 : decode code 753 = .ok (.aload_n 0, 1) := by decide +kernel
theorem dL_754 : decode code 754 = .ok (.iload 4, 2) := by decide +kernel
theorem dL_756 : decode code 756 = .ok (.iconst 1, 1) := by decide +kernel
theorem dL_757 : decode code 757 = .ok (.iadd, 1) := by decide +kernel
theorem dL_758 : decode code 758 = .ok (.iaload, 1) := by decide +kernel
theorem dL_759 : decode code 759 = .ok (.aload_n 3, 1) := by decide +kernel
theorem dL_760 : decode code 760 = .ok (.invokestatic 143, 3) := by decide +kernel
theorem dL_763 : decode code 763 = .ok (.istore 5, 2) := by decide +kernel
theorem dL_765 : decode code 765 = .ok (.aload_n 2, 1) := by decide +kernel
theorem dL_766 : decode code 766 = .ok (.aload_n 0, 1) := by decide +kernel
theorem dL_767 : decode code 767 = .ok (.iload 4, 2) := by decide +kernel
theorem dL_769 : decode code 769 = .ok (.iconst 1, 1) := by decide +kernel
theorem dL_770 : decode code 770 = .ok (.iadd, 1) := by decide +kernel
theorem dL_771 : decode code 771 = .ok (.iaload, 1) := by decide +kernel
theorem dL_772 : decode code 772 = .ok (.invokevirtual 145, 3) := by decide +kernel
theorem dL_775 : decode code 775 = .ok (.istore 6, 2) := by decide +kernel
theorem dL_777 : decode code 777 = .ok (.aload_n 2, 1) := by decide +kernel
theorem dL_778 : decode code 778 = .ok (.invokevirtual 109, 3) := by decide +kernel
theorem dL_781 : decode code 781 = .ok (.iload 5, 2) := by decide +kernel
theorem dL_783 : decode code 783 = .ok (.if_icmp .eq 5, 3) := by decide +kernel
theorem dL_788 : decode code 788 = .ok (.iload 5, 2) := by decide +kernel
theorem dL_790 : decode code 790 = .ok (.ifCond .ne 15, 3) := by decide +kernel
theorem dL_793 : decode code 793 = .ok (.aload_n 3, 1) := by decide +kernel
theorem dL_794 : decode code 794 = .ok (.iconst 0, 1) := by decide +kernel
theorem dL_795 : decode code 795 = .ok (.laload, 1) := by decide +kernel
theorem dL_796 : decode code 796 = .ok (.iload 6, 2) := by decide +kernel
theorem dL_798 : decode code 798 = .ok (.i2l, 1) := by decide +kernel
theorem dL_799 : decode code 799 = .ok (.lcmp, 1) := by decide +kernel
theorem dL_800 : decode code 800 = .ok (.ifCond .eq 5, 3) := by decide +kernel
theorem dL_805 : decode code 805 = .ok (.goto 807, 3) := by decide +kernel
theorem dL_808 : decode code 808 = .ok (.aload_n 1, 1) := by decide +kernel
theorem dL_809 : decode code 809 = .ok (.aload_n 0, 1) := by decide +kernel
theorem dL_810 : decode code 810 = .ok (.iload 4, 2) := by decide +kernel
theorem dL_812 : decode code 812 = .ok (.iconst 1, 1) := by decide +kernel
theorem dL_813 : decode code 813 = .ok (.iadd, 1) := by decide +kernel
theorem dL_814 : decode code 814 = .ok (.iaload, 1) := by decide +kernel
theorem dL_815 : decode code 815 = .ok (.aload_n 3, 1) := by decide +kernel
theorem dL_816 : decode code 816 = .ok (.invokestatic 146, 3) := by decide +kernel
theorem dL_819 : decode code 819 = .ok (.istore 5, 2) := by decide +kernel
theorem dL_821 : decode code 821 = .ok (.aload_n 2, 1) := by decide +kernel
theorem dL_822 : decode code 822 = .ok (.aload_n 0, 1) := by decide +kernel
theorem dL_823 : decode code 823 = .ok (.iload 4, 2) := by decide +kernel
theorem dL_825 : decode code 825 = .ok (.iconst 1, 1) := by decide +kernel
theorem dL_826 : decode code 826 = .ok (.iadd, 1) := by decide +kernel
theorem dL_827 : decode code 827 = .ok (.iaload, 1) := by decide +kernel
theorem dL_828 : decode code 828 = .ok (.invokevirtual 148, 3) := by decide +kernel
theorem dL_831 : decode code 831 = .ok (.lstore 6, 2) := by decide +kernel
theorem dL_833 : decode code 833 = .ok (.aload_n 2, 1) := by decide +kernel
theorem dL_834 : decode code 834 = .ok (.invokevirtual 109, 3) := by decide +kernel
theorem dL_837 : decode code 837 = .ok (.iload 5, 2) := by decide +kernel
theorem dL_839 : decode code 839 = .ok (.if_icmp .eq 5, 3) := by decide +kernel
theorem dL_844 : decode code 844 = .ok (.iload 5, 2) := by decide +kernel
theorem dL_846 : decode code 846 = .ok (.ifCond .ne 14, 3) := by decide +kernel
theorem dL_849 : decode code 849 = .ok (.aload_n 3, 1) := by decide +kernel
theorem dL_850 : decode code 850 = .ok (.iconst 0, 1) := by decide +kernel
theorem dL_851 : decode code 851 = .ok (.laload, 1) := by decide +kernel
theorem dL_852 : decode code 852 = .ok (.lload 6, 2) := by decide +kernel
theorem dL_854 : decode code 854 = .ok (.lcmp, 1) := by decide +kernel
theorem dL_855 : decode code 855 = .ok (.ifCond .eq 5, 3) := by decide +kernel
theorem dL_860 : decode code 860 = .ok (.goto 752, 3) := by decide +kernel
theorem dL_863 : decode code 863 = .ok (.aload_n 1, 1) := by decide +kernel
theorem dL_864 : decode code 864 = .ok (.aload_n 0, 1) := by decide +kernel
theorem dL_865 : decode code 865 = .ok (.iload 4, 2) := by decide +kernel
theorem dL_867 : decode code 867 = .ok (.iconst 1, 1) := by decide +kernel
theorem dL_868 : decode code 868 = .ok (.iadd, 1) := by decide +kernel
theorem dL_869 : decode code 869 = .ok (.iaload, 1) := by decide +kernel
theorem dL_870 : decode code 870 = .ok (.aload_n 0, 1) := by decide +kernel
theorem dL_871 : decode code 871 = .ok (.iload 4, 2) := by decide +kernel
theorem dL_873 : decode code 873 = .ok (.iconst 2, 1) := by decide +kernel
theorem dL_874 : decode code 874 = .ok (.iadd, 1) := by decide +kernel
theorem dL_875 : decode code 875 = .ok (.iaload, 1) := by decide +kernel
theorem dL_876 : decode code 876 = .ok (.aload_n 3, 1) := by decide +kernel
theorem dL_877 : decode code 877 = .ok (.invokestatic 149, 3) := by decide +kernel
theorem dL_880 : decode code 880 = .ok (.istore 5, 2) := by decide +kernel
theorem dL_882 : decode code 882 = .ok (.aload_n 2, 1) := by decide +kernel
theorem dL_883 : decode code 883 = .ok (.aload_n 0, 1) := by decide +kernel
theorem dL_884 : decode code 884 = .ok (.iload 4, 2) := by decide +kernel
theorem dL_886 : decode code 886 = .ok (.iconst 1, 1) := by decide +kernel
theorem dL_887 : decode code 887 = .ok (.iadd, 1) := by decide +kernel
theorem dL_888 : decode code 888 = .ok (.iaload, 1) := by decide +kernel
theorem dL_889 : decode code 889 = .ok (.aload_n 0, 1) := by decide +kernel
theorem dL_890 : decode code 890 = .ok (.iload 4, 2) := by decide +kernel
theorem dL_892 : decode code 892 = .ok (.iconst 2, 1) := by decide +kernel
theorem dL_893 : decode code 893 = .ok (.iadd, 1) := by decide +kernel
theorem dL_894 : decode code 894 = .ok (.iaload, 1) := by decide +kernel
theorem dL_895 : decode code 895 = .ok (.invokevirtual 151, 3) := by decide +kernel
theorem dL_898 : decode code 898 = .ok (.istore 6, 2) := by decide +kernel
theorem dL_900 : decode code 900 = .ok (.aload_n 2, 1) := by decide +kernel
theorem dL_901 : decode code 901 = .ok (.invokevirtual 109, 3) := by decide +kernel
theorem dL_904 : decode code 904 = .ok (.iload 5, 2) := by decide +kernel
theorem dL_906 : decode code 906 = .ok (.if_icmp .eq 5, 3) := by decide +kernel
theorem dL_911 : decode code 911 = .ok (.iload 5, 2) := by decide +kernel
theorem dL_913 : decode code 913 = .ok (.ifCond .ne 15, 3) := by decide +kernel
theorem dL_916 : decode code 916 = .ok (.aload_n 3, 1) := by decide +kernel
theorem dL_917 : decode code 917 = .ok (.iconst 0, 1) := by decide +kernel
theorem dL_918 : decode code 918 = .ok (.laload, 1) := by decide +kernel
theorem dL_919 : decode code 919 = .ok (.iload 6, 2) := by decide +kernel
theorem dL_921 : decode code 921 = .ok (.i2l, 1) := by decide +kernel
theorem dL_922 : decode code 922 = .ok (.lcmp, 1) := by decide +kernel
theorem dL_923 : decode code 923 = .ok (.ifCond .eq 5, 3) := by decide +kernel
theorem dL_928 : decode code 928 = .ok (.goto 684, 3) := by decide +kernel
theorem dL_931 : decode code 931 = .ok (.aload_n 1, 1) := by decide +kernel
theorem dL_932 : decode code 932 = .ok (.aload_n 0, 1) := by decide +kernel
theorem dL_933 : decode code 933 = .ok (.iload 4, 2) := by decide +kernel
theorem dL_935 : decode code 935 = .ok (.iconst 1, 1) := by decide +kernel
theorem dL_936 : decode code 936 = .ok (.iadd, 1) := by decide +kernel
theorem dL_937 : decode code 937 = .ok (.iaload, 1) := by decide +kernel
theorem dL_938 : decode code 938 = .ok (.aload_n 0, 1) := by decide +kernel
theorem dL_939 : decode code 939 = .ok (.iload 4, 2) := by decide +kernel
theorem dL_941 : decode code 941 = .ok (.iconst 2, 1) := by decide +kernel
theorem dL_942 : decode code 942 = .ok (.iadd, 1) := by decide +kernel
theorem dL_943 : decode code 943 = .ok (.iaload, 1) := by decide +kernel
