/-! the law, decoded, further -/
theorem d_534 : decode code 534 = .ok (.goto 863, 3) := by decide +kernel
theorem d_537 : decode code 537 = .ok (.aload_n 1, 1) := by decide +kernel
theorem d_538 : decode code 538 = .ok (.aload_n 0, 1) := by decide +kernel
theorem d_539 : decode code 539 = .ok (.iload 4, 2) := by decide +kernel
theorem d_541 : decode code 541 = .ok (.iconst 1, 1) := by decide +kernel
theorem d_542 : decode code 542 = .ok (.iadd, 1) := by decide +kernel
theorem d_543 : decode code 543 = .ok (.iaload, 1) := by decide +kernel
theorem d_544 : decode code 544 = .ok (.aload_n 0, 1) := by decide +kernel
theorem d_545 : decode code 545 = .ok (.iload 4, 2) := by decide +kernel
theorem d_547 : decode code 547 = .ok (.iconst 2, 1) := by decide +kernel
theorem d_548 : decode code 548 = .ok (.iadd, 1) := by decide +kernel
theorem d_549 : decode code 549 = .ok (.iaload, 1) := by decide +kernel
theorem d_550 : decode code 550 = .ok (.invokestatic 113, 3) := by decide +kernel
theorem d_553 : decode code 553 = .ok (.istore 5, 2) := by decide +kernel
theorem d_555 : decode code 555 = .ok (.aload_n 2, 1) := by decide +kernel
theorem d_556 : decode code 556 = .ok (.aload_n 0, 1) := by decide +kernel
theorem d_557 : decode code 557 = .ok (.iload 4, 2) := by decide +kernel
theorem d_559 : decode code 559 = .ok (.iconst 1, 1) := by decide +kernel
theorem d_560 : decode code 560 = .ok (.iadd, 1) := by decide +kernel
theorem d_561 : decode code 561 = .ok (.iaload, 1) := by decide +kernel
theorem d_562 : decode code 562 = .ok (.aload_n 0, 1) := by decide +kernel
theorem d_563 : decode code 563 = .ok (.iload 4, 2) := by decide +kernel
theorem d_565 : decode code 565 = .ok (.iconst 2, 1) := by decide +kernel
theorem d_566 : decode code 566 = .ok (.iadd, 1) := by decide +kernel
theorem d_567 : decode code 567 = .ok (.iaload, 1) := by decide +kernel
theorem d_568 : decode code 568 = .ok (.invokevirtual 115, 3) := by decide +kernel
theorem d_571 : decode code 571 = .ok (.aload_n 2, 1) := by decide +kernel
theorem d_572 : decode code 572 = .ok (.invokevirtual 83, 3) := by decide +kernel
theorem d_575 : decode code 575 = .ok (.iload 5, 2) := by decide +kernel
theorem d_577 : decode code 577 = .ok (.if_icmp .eq 5, 3) := by decide +kernel
theorem d_582 : decode code 582 = .ok (.goto 815, 3) := by decide +kernel
theorem d_585 : decode code 585 = .ok (.aload_n 1, 1) := by decide +kernel
theorem d_586 : decode code 586 = .ok (.aload_n 0, 1) := by decide +kernel
theorem d_587 : decode code 587 = .ok (.iload 4, 2) := by decide +kernel
theorem d_589 : decode code 589 = .ok (.iconst 1, 1) := by decide +kernel
theorem d_590 : decode code 590 = .ok (.iadd, 1) := by decide +kernel
theorem d_591 : decode code 591 = .ok (.iaload, 1) := by decide +kernel
theorem d_592 : decode code 592 = .ok (.aload_n 0, 1) := by decide +kernel
theorem d_593 : decode code 593 = .ok (.iload 4, 2) := by decide +kernel
theorem d_595 : decode code 595 = .ok (.iconst 2, 1) := by decide +kernel
theorem d_596 : decode code 596 = .ok (.iadd, 1) := by decide +kernel
theorem d_597 : decode code 597 = .ok (.iaload, 1) := by decide +kernel
theorem d_598 : decode code 598 = .ok (.invokestatic 116, 3) := by decide +kernel
theorem d_601 : decode code 601 = .ok (.istore 5, 2) := by decide +kernel
theorem d_603 : decode code 603 = .ok (.aload_n 2, 1) := by decide +kernel
theorem d_604 : decode code 604 = .ok (.aload_n 0, 1) := by decide +kernel
theorem d_605 : decode code 605 = .ok (.iload 4, 2) := by decide +kernel
theorem d_607 : decode code 607 = .ok (.iconst 1, 1) := by decide +kernel
theorem d_608 : decode code 608 = .ok (.iadd, 1) := by decide +kernel
theorem d_609 : decode code 609 = .ok (.iaload, 1) := by decide +kernel
theorem d_610 : decode code 610 = .ok (.aload_n 0, 1) := by decide +kernel
theorem d_611 : decode code 611 = .ok (.iload 4, 2) := by decide +kernel
theorem d_613 : decode code 613 = .ok (.iconst 2, 1) := by decide +kernel
theorem d_614 : decode code 614 = .ok (.iadd, 1) := by decide +kernel
theorem d_615 : decode code 615 = .ok (.iaload, 1) := by decide +kernel
theorem d_616 : decode code 616 = .ok (.invokevirtual 118, 3) := by decide +kernel
theorem d_619 : decode code 619 = .ok (.aload_n 2, 1) := by decide +kernel
theorem d_620 : decode code 620 = .ok (.invokevirtual 83, 3) := by decide +kernel
theorem d_623 : decode code 623 = .ok (.iload 5, 2) := by decide +kernel
theorem d_625 : decode code 625 = .ok (.if_icmp .eq 5, 3) := by decide +kernel
theorem d_630 : decode code 630 = .ok (.goto 767, 3) := by decide +kernel
theorem d_633 : decode code 633 = .ok (.aload_n 1, 1) := by decide +kernel
theorem d_634 : decode code 634 = .ok (.aload_n 0, 1) := by decide +kernel
theorem d_635 : decode code 635 = .ok (.iload 4, 2) := by decide +kernel
theorem d_637 : decode code 637 = .ok (.iconst 1, 1) := by decide +kernel
theorem d_638 : decode code 638 = .ok (.iadd, 1) := by decide +kernel
theorem d_639 : decode code 639 = .ok (.iaload, 1) := by decide +kernel
theorem d_640 : decode code 640 = .ok (.aload_n 0, 1) := by decide +kernel
theorem d_641 : decode code 641 = .ok (.iload 4, 2) := by decide +kernel
theorem d_643 : decode code 643 = .ok (.iconst 2, 1) := by decide +kernel
theorem d_644 : decode code 644 = .ok (.iadd, 1) := by decide +kernel
theorem d_645 : decode code 645 = .ok (.iaload, 1) := by decide +kernel
theorem d_646 : decode code 646 = .ok (.aload_n 0, 1) := by decide +kernel
theorem d_647 : decode code 647 = .ok (.iload 4, 2) := by decide +kernel
theorem d_649 : decode code 649 = .ok (.iconst 3, 1) := by decide +kernel
theorem d_650 : decode code 650 = .ok (.iadd, 1) := by decide +kernel
theorem d_651 : decode code 651 = .ok (.iaload, 1) := by decide +kernel
theorem d_652 : decode code 652 = .ok (.aload_n 3, 1) := by decide +kernel
theorem d_653 : decode code 653 = .ok (.invokestatic 119, 3) := by decide +kernel
theorem d_656 : decode code 656 = .ok (.istore 5, 2) := by decide +kernel
theorem d_658 : decode code 658 = .ok (.aload_n 2, 1) := by decide +kernel
theorem d_659 : decode code 659 = .ok (.aload_n 0, 1) := by decide +kernel
theorem d_660 : decode code 660 = .ok (.iload 4, 2) := by decide +kernel
theorem d_662 : decode code 662 = .ok (.iconst 1, 1) := by decide +kernel
theorem d_663 : decode code 663 = .ok (.iadd, 1) := by decide +kernel
theorem d_664 : decode code 664 = .ok (.iaload, 1) := by decide +kernel
theorem d_665 : decode code 665 = .ok (.aload_n 0, 1) := by decide +kernel
theorem d_666 : decode code 666 = .ok (.iload 4, 2) := by decide +kernel
theorem d_668 : decode code 668 = .ok (.iconst 2, 1) := by decide +kernel
theorem d_669 : decode code 669 = .ok (.iadd, 1) := by decide +kernel
theorem d_670 : decode code 670 = .ok (.iaload, 1) := by decide +kernel
theorem d_671 : decode code 671 = .ok (.aload_n 0, 1) := by decide +kernel
theorem d_672 : decode code 672 = .ok (.iload 4, 2) := by decide +kernel
theorem d_674 : decode code 674 = .ok (.iconst 3, 1) := by decide +kernel
theorem d_675 : decode code 675 = .ok (.iadd, 1) := by decide +kernel
theorem d_676 : decode code 676 = .ok (.iaload, 1) := by decide +kernel
theorem d_677 : decode code 677 = .ok (.invokevirtual 122, 3) := by decide +kernel
theorem d_680 : decode code 680 = .ok (.istore 6, 2) := by decide +kernel
theorem d_682 : decode code 682 = .ok (.aload_n 2, 1) := by decide +kernel
theorem d_683 : decode code 683 = .ok (.invokevirtual 83, 3) := by decide +kernel
theorem d_686 : decode code 686 = .ok (.iload 5, 2) := by decide +kernel
theorem d_688 : decode code 688 = .ok (.if_icmp .eq 5, 3) := by decide +kernel
theorem d_693 : decode code 693 = .ok (.iload 5, 2) := by decide +kernel
theorem d_695 : decode code 695 = .ok (.ifCond .ne 22, 3) := by decide +kernel
theorem d_698 : decode code 698 = .ok (.aload_n 3, 1) := by decide +kernel
theorem d_699 : decode code 699 = .ok (.iconst 0, 1) := by decide +kernel
theorem d_700 : decode code 700 = .ok (.laload, 1) := by decide +kernel
theorem d_701 : decode code 701 = .ok (.iload 6, 2) := by decide +kernel
theorem d_703 : decode code 703 = .ok (.ifCond .eq 7, 3) := by decide +kernel
theorem d_706 : decode code 706 = .ok (.lconst 1, 1) := by decide +kernel
theorem d_707 : decode code 707 = .ok (.goto 4, 3) := by decide +kernel
theorem d_710 : decode code 710 = .ok (.lconst 0, 1) := by decide +kernel
theorem d_711 : decode code 711 = .ok (.lcmp, 1) := by decide +kernel
theorem d_712 : decode code 712 = .ok (.ifCond .eq 5, 3) := by decide +kernel
theorem d_717 : decode code 717 = .ok (.goto 680, 3) := by decide +kernel
theorem d_720 : decode code 720 = .ok (.aload_n 1, 1) := by decide +kernel
theorem d_721 : decode code 721 = .ok (.aload_n 0, 1) := by decide +kernel
theorem d_722 : decode code 722 = .ok (.iload 4, 2) := by decide +kernel
theorem d_724 : decode code 724 = .ok (.iconst 1, 1) := by decide +kernel
theorem d_725 : decode code 725 = .ok (.iadd, 1) := by decide +kernel
theorem d_726 : decode code 726 = .ok (.iaload, 1) := by decide +kernel
theorem d_727 : decode code 727 = .ok (.aload_n 0, 1) := by decide +kernel
theorem d_728 : decode code 728 = .ok (.iload 4, 2) := by decide +kernel
theorem d_730 : decode code 730 = .ok (.iconst 2, 1) := by decide +kernel
theorem d_731 : decode code 731 = .ok (.iadd, 1) := by decide +kernel
theorem d_732 : decode code 732 = .ok (.iaload, 1) := by decide +kernel
theorem d_733 : decode code 733 = .ok (.aload_n 0, 1) := by decide +kernel
theorem d_734 : decode code 734 = .ok (.iload 4, 2) := by decide +kernel
theorem d_736 : decode code 736 = .ok (.iconst 3, 1) := by decide +kernel
theorem d_737 : decode code 737 = .ok (.iadd, 1) := by decide +kernel
theorem d_738 : decode code 738 = .ok (.iaload, 1) := by decide +kernel
theorem d_739 : decode code 739 = .ok (.aload_n 3, 1) := by decide +kernel
theorem d_740 : decode code 740 = .ok (.invokestatic 123, 3) := by decide +kernel
theorem d_743 : decode code 743 = .ok (.istore 5, 2) := by decide +kernel
theorem d_745 : decode code 745 = .ok (.aload_n 2, 1) := by decide +kernel
theorem d_746 : decode code 746 = .ok (.aload_n 0, 1) := by decide +kernel
theorem d_747 : decode code 747 = .ok (.iload 4, 2) := by decide +kernel
theorem d_749 : decode code 749 = .ok (.iconst 1, 1) := by decide +kernel
theorem d_750 : decode code 750 = .ok (.iadd, 1) := by decide +kernel
theorem d_751 : decode code 751 = .ok (.iaload, 1) := by decide +kernel
theorem d_752 : decode code 752 = .ok (.aload_n 0, 1) := by decide +kernel
theorem d_753 : decode code 753 = .ok (.iload 4, 2) := by decide +kernel
theorem d_755 : decode code 755 = .ok (.iconst 2, 1) := by decide +kernel
theorem d_756 : decode code 756 = .ok (.iadd, 1) := by decide +kernel
theorem d_757 : decode code 757 = .ok (.iaload, 1) := by decide +kernel
theorem d_758 : decode code 758 = .ok (.aload_n 0, 1) := by decide +kernel
theorem d_759 : decode code 759 = .ok (.iload 4, 2) := by decide +kernel
theorem d_761 : decode code 761 = .ok (.iconst 3, 1) := by decide +kernel
theorem d_762 : decode code 762 = .ok (.iadd, 1) := by decide +kernel
theorem d_763 : decode code 763 = .ok (.iaload, 1) := by decide +kernel
theorem d_764 : decode code 764 = .ok (.invokevirtual 125, 3) := by decide +kernel
theorem d_767 : decode code 767 = .ok (.istore 6, 2) := by decide +kernel
theorem d_769 : decode code 769 = .ok (.aload_n 2, 1) := by decide +kernel
theorem d_770 : decode code 770 = .ok (.invokevirtual 83, 3) := by decide +kernel
theorem d_773 : decode code 773 = .ok (.iload 5, 2) := by decide +kernel
theorem d_775 : decode code 775 = .ok (.if_icmp .eq 5, 3) := by decide +kernel
theorem d_780 : decode code 780 = .ok (.iload 5, 2) := by decide +kernel
theorem d_782 : decode code 782 = .ok (.ifCond .ne 22, 3) := by decide +kernel
theorem d_785 : decode code 785 = .ok (.aload_n 3, 1) := by decide +kernel
theorem d_786 : decode code 786 = .ok (.iconst 0, 1) := by decide +kernel
theorem d_787 : decode code 787 = .ok (.laload, 1) := by decide +kernel
theorem d_788 : decode code 788 = .ok (.iload 6, 2) := by decide +kernel
theorem d_790 : decode code 790 = .ok (.ifCond .eq 7, 3) := by decide +kernel
theorem d_793 : decode code 793 = .ok (.lconst 1, 1) := by decide +kernel
theorem d_794 : decode code 794 = .ok (.goto 4, 3) := by decide +kernel
theorem d_797 : decode code 797 = .ok (.lconst 0, 1) := by decide +kernel
theorem d_798 : decode code 798 = .ok (.lcmp, 1) := by decide +kernel
theorem d_799 : decode code 799 = .ok (.ifCond .eq 5, 3) := by decide +kernel
theorem d_804 : decode code 804 = .ok (.goto 593, 3) := by decide +kernel
theorem d_807 : decode code 807 = .ok (.aload_n 1, 1) := by decide +kernel
theorem d_808 : decode code 808 = .ok (.aload_n 0, 1) := by decide +kernel
theorem d_809 : decode code 809 = .ok (.iload 4, 2) := by decide +kernel
theorem d_811 : decode code 811 = .ok (.iconst 1, 1) := by decide +kernel
theorem d_812 : decode code 812 = .ok (.iadd, 1) := by decide +kernel
theorem d_813 : decode code 813 = .ok (.iaload, 1) := by decide +kernel
theorem d_814 : decode code 814 = .ok (.aload_n 0, 1) := by decide +kernel
theorem d_815 : decode code 815 = .ok (.iload 4, 2) := by decide +kernel
theorem d_817 : decode code 817 = .ok (.iconst 2, 1) := by decide +kernel
theorem d_818 : decode code 818 = .ok (.iadd, 1) := by decide +kernel
theorem d_819 : decode code 819 = .ok (.iaload, 1) := by decide +kernel
theorem d_820 : decode code 820 = .ok (.aload_n 0, 1) := by decide +kernel
theorem d_821 : decode code 821 = .ok (.iload 4, 2) := by decide +kernel
theorem d_823 : decode code 823 = .ok (.iconst 3, 1) := by decide +kernel
theorem d_824 : decode code 824 = .ok (.iadd, 1) := by decide +kernel
theorem d_825 : decode code 825 = .ok (.iaload, 1) := by decide +kernel
theorem d_826 : decode code 826 = .ok (.aload_n 3, 1) := by decide +kernel
theorem d_827 : decode code 827 = .ok (.invokestatic 126, 3) := by decide +kernel
theorem d_830 : decode code 830 = .ok (.istore 5, 2) := by decide +kernel
theorem d_832 : decode code 832 = .ok (.aload_n 2, 1) := by decide +kernel
theorem d_833 : decode code 833 = .ok (.aload_n 0, 1) := by decide +kernel
theorem d_834 : decode code 834 = .ok (.iload 4, 2) := by decide +kernel
theorem d_836 : decode code 836 = .ok (.iconst 1, 1) := by decide +kernel
theorem d_837 : decode code 837 = .ok (.iadd, 1) := by decide +kernel
theorem d_838 : decode code 838 = .ok (.iaload, 1) := by decide +kernel
theorem d_839 : decode code 839 = .ok (.aload_n 0, 1) := by decide +kernel
theorem d_840 : decode code 840 = .ok (.iload 4, 2) := by decide +kernel
theorem d_842 : decode code 842 = .ok (.iconst 2, 1) := by decide +kernel
theorem d_843 : decode code 843 = .ok (.iadd, 1) := by decide +kernel
theorem d_844 : decode code 844 = .ok (.iaload, 1) := by decide +kernel
theorem d_845 : decode code 845 = .ok (.aload_n 0, 1) := by decide +kernel
theorem d_846 : decode code 846 = .ok (.iload 4, 2) := by decide +kernel
theorem d_848 : decode code 848 = .ok (.iconst 3, 1) := by decide +kernel
theorem d_849 : decode code 849 = .ok (.iadd, 1) := by decide +kernel
theorem d_850 : decode code 850 = .ok (.iaload, 1) := by decide +kernel
theorem d_851 : decode code 851 = .ok (.invokevirtual 128, 3) := by decide +kernel
theorem d_854 : decode code 854 = .ok (.istore 6, 2) := by decide +kernel
theorem d_856 : decode code 856 = .ok (.aload_n 2, 1) := by decide +kernel
theorem d_857 : decode code 857 = .ok (.invokevirtual 83, 3) := by decide +kernel
theorem d_860 : decode code 860 = .ok (.iload 5, 2) := by decide +kernel
theorem d_862 : decode code 862 = .ok (.if_icmp .eq 5, 3) := by decide +kernel
theorem d_867 : decode code 867 = .ok (.iload 5, 2) := by decide +kernel
theorem d_869 : decode code 869 = .ok (.ifCond .ne 22, 3) := by decide +kernel
theorem d_872 : decode code 872 = .ok (.aload_n 3, 1) := by decide +kernel
theorem d_873 : decode code 873 = .ok (.iconst 0, 1) := by decide +kernel
theorem d_874 : decode code 874 = .ok (.laload, 1) := by decide +kernel
theorem d_875 : decode code 875 = .ok (.iload 6, 2) := by decide +kernel
theorem d_877 : decode code 877 = .ok (.ifCond .eq 7, 3) := by decide +kernel
theorem d_880 : decode code 880 = .ok (.lconst 1, 1) := by decide +kernel
theorem d_881 : decode code 881 = .ok (.goto 4, 3) := by decide +kernel
theorem d_884 : decode code 884 = .ok (.lconst 0, 1) := by decide +kernel
theorem d_885 : decode code 885 = .ok (.lcmp, 1) := by decide +kernel
theorem d_886 : decode code 886 = .ok (.ifCond .eq 5, 3) := by decide +kernel
theorem d_891 : decode code 891 = .ok (.goto 506, 3) := by decide +kernel
theorem d_894 : decode code 894 = .ok (.aload_n 1, 1) := by decide +kernel
theorem d_895 : decode code 895 = .ok (.aload_n 0, 1) := by decide +kernel
theorem d_896 : decode code 896 = .ok (.iload 4, 2) := by decide +kernel
theorem d_898 : decode code 898 = .ok (.iconst 1, 1) := by decide +kernel
theorem d_899 : decode code 899 = .ok (.iadd, 1) := by decide +kernel
theorem d_900 : decode code 900 = .ok (.iaload, 1) := by decide +kernel
theorem d_901 : decode code 901 = .ok (.aload_n 0, 1) := by decide +kernel
theorem d_902 : decode code 902 = .ok (.iload 4, 2) := by decide +kernel
theorem d_904 : decode code 904 = .ok (.iconst 2, 1) := by decide +kernel
theorem d_905 : decode code 905 = .ok (.iadd, 1) := by decide +kernel
theorem d_906 : decode code 906 = .ok (.iaload, 1) := by decide +kernel
theorem d_907 : decode code 907 = .ok (.aload_n 0, 1) := by decide +kernel
theorem d_908 : decode code 908 = .ok (.iload 4, 2) := by decide +kernel
theorem d_910 : decode code 910 = .ok (.iconst 3, 1) := by decide +kernel
theorem d_911 : decode code 911 = .ok (.iadd, 1) := by decide +kernel
theorem d_912 : decode code 912 = .ok (.iaload, 1) := by decide +kernel
theorem d_913 : decode code 913 = .ok (.aload_n 3, 1) := by decide +kernel
theorem d_914 : decode code 914 = .ok (.invokestatic 129, 3) := by decide +kernel
theorem d_917 : decode code 917 = .ok (.istore 5, 2) := by decide +kernel
theorem d_919 : decode code 919 = .ok (.aload_n 2, 1) := by decide +kernel
theorem d_920 : decode code 920 = .ok (.aload_n 0, 1) := by decide +kernel
theorem d_921 : decode code 921 = .ok (.iload 4, 2) := by decide +kernel
theorem d_923 : decode code 923 = .ok (.iconst 1, 1) := by decide +kernel
theorem d_924 : decode code 924 = .ok (.iadd, 1) := by decide +kernel
theorem d_925 : decode code 925 = .ok (.iaload, 1) := by decide +kernel
theorem d_926 : decode code 926 = .ok (.aload_n 0, 1) := by decide +kernel
theorem d_927 : decode code 927 = .ok (.iload 4, 2) := by decide +kernel
theorem d_929 : decode code 929 = .ok (.iconst 2, 1) := by decide +kernel
theorem d_930 : decode code 930 = .ok (.iadd, 1) := by decide +kernel
theorem d_931 : decode code 931 = .ok (.iaload, 1) := by decide +kernel
theorem d_932 : decode code 932 = .ok (.aload_n 0, 1) := by decide +kernel
theorem d_933 : decode code 933 = .ok (.iload 4, 2) := by decide +kernel
theorem d_935 : decode code 935 = .ok (.iconst 3, 1) := by decide +kernel
theorem d_936 : decode code 936 = .ok (.iadd, 1) := by decide +kernel
theorem d_937 : decode code 937 = .ok (.iaload, 1) := by decide +kernel
theorem d_938 : decode code 938 = .ok (.invokevirtual 131, 3) := by decide +kernel
theorem d_941 : decode code 941 = .ok (.istore 6, 2) := by decide +kernel
theorem d_943 : decode code 943 = .ok (.aload_n 2, 1) := by decide +kernel
theorem d_944 : decode code 944 = .ok (.invokevirtual 83, 3) := by decide +kernel
