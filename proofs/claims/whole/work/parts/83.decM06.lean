/-! decode rows -/
theorem d_Model_init_685 : decode b_Model_init 685 = .ok (.bipush 31, 2) := by decide +kernel
theorem d_Model_init_687 : decode b_Model_init 687 = .ok (.bipush 32, 2) := by decide +kernel
theorem d_Model_init_689 : decode b_Model_init 689 = .ok (.iastore, 1) := by decide +kernel
theorem d_Model_init_690 : decode b_Model_init 690 = .ok (.dup, 1) := by decide +kernel
theorem d_Model_init_691 : decode b_Model_init 691 = .ok (.bipush 32, 2) := by decide +kernel
theorem d_Model_init_693 : decode b_Model_init 693 = .ok (.bipush 109, 2) := by decide +kernel
theorem d_Model_init_695 : decode b_Model_init 695 = .ok (.iastore, 1) := by decide +kernel
theorem d_Model_init_696 : decode b_Model_init 696 = .ok (.dup, 1) := by decide +kernel
theorem d_Model_init_697 : decode b_Model_init 697 = .ok (.bipush 33, 2) := by decide +kernel
theorem d_Model_init_699 : decode b_Model_init 699 = .ok (.bipush 111, 2) := by decide +kernel
theorem d_Model_init_701 : decode b_Model_init 701 = .ok (.iastore, 1) := by decide +kernel
theorem d_Model_init_702 : decode b_Model_init 702 = .ok (.dup, 1) := by decide +kernel
theorem d_Model_init_703 : decode b_Model_init 703 = .ok (.bipush 34, 2) := by decide +kernel
theorem d_Model_init_705 : decode b_Model_init 705 = .ok (.bipush 114, 2) := by decide +kernel
theorem d_Model_init_707 : decode b_Model_init 707 = .ok (.iastore, 1) := by decide +kernel
theorem d_Model_init_708 : decode b_Model_init 708 = .ok (.dup, 1) := by decide +kernel
theorem d_Model_init_709 : decode b_Model_init 709 = .ok (.bipush 35, 2) := by decide +kernel
theorem d_Model_init_711 : decode b_Model_init 711 = .ok (.bipush 101, 2) := by decide +kernel
theorem d_Model_init_713 : decode b_Model_init 713 = .ok (.iastore, 1) := by decide +kernel
theorem d_Model_init_714 : decode b_Model_init 714 = .ok (.dup, 1) := by decide +kernel
theorem d_Model_init_715 : decode b_Model_init 715 = .ok (.bipush 36, 2) := by decide +kernel
theorem d_Model_init_717 : decode b_Model_init 717 = .ok (.bipush 32, 2) := by decide +kernel
theorem d_Model_init_719 : decode b_Model_init 719 = .ok (.iastore, 1) := by decide +kernel
theorem d_Model_init_720 : decode b_Model_init 720 = .ok (.dup, 1) := by decide +kernel
theorem d_Model_init_721 : decode b_Model_init 721 = .ok (.bipush 37, 2) := by decide +kernel
theorem d_Model_init_723 : decode b_Model_init 723 = .ok (.bipush 32, 2) := by decide +kernel
theorem d_Model_init_725 : decode b_Model_init 725 = .ok (.iastore, 1) := by decide +kernel
theorem d_Model_init_726 : decode b_Model_init 726 = .ok (.dup, 1) := by decide +kernel
theorem d_Model_init_727 : decode b_Model_init 727 = .ok (.bipush 38, 2) := by decide +kernel
theorem d_Model_init_729 : decode b_Model_init 729 = .ok (.bipush 32, 2) := by decide +kernel
theorem d_Model_init_731 : decode b_Model_init 731 = .ok (.iastore, 1) := by decide +kernel
theorem d_Model_init_732 : decode b_Model_init 732 = .ok (.dup, 1) := by decide +kernel
theorem d_Model_init_733 : decode b_Model_init 733 = .ok (.bipush 39, 2) := by decide +kernel
theorem d_Model_init_735 : decode b_Model_init 735 = .ok (.bipush 32, 2) := by decide +kernel
theorem d_Model_init_737 : decode b_Model_init 737 = .ok (.iastore, 1) := by decide +kernel
theorem d_Model_init_738 : decode b_Model_init 738 = .ok (.dup, 1) := by decide +kernel
theorem d_Model_init_739 : decode b_Model_init 739 = .ok (.bipush 40, 2) := by decide +kernel
theorem d_Model_init_741 : decode b_Model_init 741 = .ok (.bipush 104, 2) := by decide +kernel
theorem d_Model_init_743 : decode b_Model_init 743 = .ok (.iastore, 1) := by decide +kernel
theorem d_Model_init_744 : decode b_Model_init 744 = .ok (.dup, 1) := by decide +kernel
theorem d_Model_init_745 : decode b_Model_init 745 = .ok (.bipush 41, 2) := by decide +kernel
theorem d_Model_init_747 : decode b_Model_init 747 = .ok (.bipush 111, 2) := by decide +kernel
theorem d_Model_init_749 : decode b_Model_init 749 = .ok (.iastore, 1) := by decide +kernel
theorem d_Model_init_750 : decode b_Model_init 750 = .ok (.dup, 1) := by decide +kernel
theorem d_Model_init_751 : decode b_Model_init 751 = .ok (.bipush 42, 2) := by decide +kernel
theorem d_Model_init_753 : decode b_Model_init 753 = .ok (.bipush 108, 2) := by decide +kernel
theorem d_Model_init_755 : decode b_Model_init 755 = .ok (.iastore, 1) := by decide +kernel
theorem d_Model_init_756 : decode b_Model_init 756 = .ok (.dup, 1) := by decide +kernel
theorem d_Model_init_757 : decode b_Model_init 757 = .ok (.bipush 43, 2) := by decide +kernel
theorem d_Model_init_759 : decode b_Model_init 759 = .ok (.bipush 100, 2) := by decide +kernel
theorem d_Model_init_761 : decode b_Model_init 761 = .ok (.iastore, 1) := by decide +kernel
theorem d_Model_init_762 : decode b_Model_init 762 = .ok (.dup, 1) := by decide +kernel
theorem d_Model_init_763 : decode b_Model_init 763 = .ok (.bipush 44, 2) := by decide +kernel
theorem d_Model_init_765 : decode b_Model_init 765 = .ok (.bipush 32, 2) := by decide +kernel
theorem d_Model_init_767 : decode b_Model_init 767 = .ok (.iastore, 1) := by decide +kernel
theorem d_Model_init_768 : decode b_Model_init 768 = .ok (.dup, 1) := by decide +kernel
theorem d_Model_init_769 : decode b_Model_init 769 = .ok (.bipush 45, 2) := by decide +kernel
theorem d_Model_init_771 : decode b_Model_init 771 = .ok (.bipush 32, 2) := by decide +kernel
theorem d_Model_init_773 : decode b_Model_init 773 = .ok (.iastore, 1) := by decide +kernel
theorem d_Model_init_774 : decode b_Model_init 774 = .ok (.dup, 1) := by decide +kernel
theorem d_Model_init_775 : decode b_Model_init 775 = .ok (.bipush 46, 2) := by decide +kernel
theorem d_Model_init_777 : decode b_Model_init 777 = .ok (.bipush 32, 2) := by decide +kernel
theorem d_Model_init_779 : decode b_Model_init 779 = .ok (.iastore, 1) := by decide +kernel
theorem d_Model_init_780 : decode b_Model_init 780 = .ok (.dup, 1) := by decide +kernel
theorem d_Model_init_781 : decode b_Model_init 781 = .ok (.bipush 47, 2) := by decide +kernel
theorem d_Model_init_783 : decode b_Model_init 783 = .ok (.bipush 32, 2) := by decide +kernel
theorem d_Model_init_785 : decode b_Model_init 785 = .ok (.iastore, 1) := by decide +kernel
theorem d_Model_init_786 : decode b_Model_init 786 = .ok (.dup, 1) := by decide +kernel
theorem d_Model_init_787 : decode b_Model_init 787 = .ok (.bipush 48, 2) := by decide +kernel
theorem d_Model_init_789 : decode b_Model_init 789 = .ok (.bipush 104, 2) := by decide +kernel
theorem d_Model_init_791 : decode b_Model_init 791 = .ok (.iastore, 1) := by decide +kernel
theorem d_Model_init_792 : decode b_Model_init 792 = .ok (.dup, 1) := by decide +kernel
theorem d_Model_init_793 : decode b_Model_init 793 = .ok (.bipush 49, 2) := by decide +kernel
theorem d_Model_init_795 : decode b_Model_init 795 = .ok (.bipush 97, 2) := by decide +kernel
theorem d_Model_init_797 : decode b_Model_init 797 = .ok (.iastore, 1) := by decide +kernel
theorem d_Model_init_798 : decode b_Model_init 798 = .ok (.dup, 1) := by decide +kernel
theorem d_Model_init_799 : decode b_Model_init 799 = .ok (.bipush 50, 2) := by decide +kernel
theorem d_Model_init_801 : decode b_Model_init 801 = .ok (.bipush 114, 2) := by decide +kernel
theorem d_Model_init_803 : decode b_Model_init 803 = .ok (.iastore, 1) := by decide +kernel
theorem d_Model_init_804 : decode b_Model_init 804 = .ok (.dup, 1) := by decide +kernel
theorem d_Model_init_805 : decode b_Model_init 805 = .ok (.bipush 51, 2) := by decide +kernel
theorem d_Model_init_807 : decode b_Model_init 807 = .ok (.bipush 100, 2) := by decide +kernel
theorem d_Model_init_809 : decode b_Model_init 809 = .ok (.iastore, 1) := by decide +kernel
theorem d_Model_init_810 : decode b_Model_init 810 = .ok (.dup, 1) := by decide +kernel
theorem d_Model_init_811 : decode b_Model_init 811 = .ok (.bipush 52, 2) := by decide +kernel
theorem d_Model_init_813 : decode b_Model_init 813 = .ok (.bipush 32, 2) := by decide +kernel
theorem d_Model_init_815 : decode b_Model_init 815 = .ok (.iastore, 1) := by decide +kernel
theorem d_Model_init_816 : decode b_Model_init 816 = .ok (.dup, 1) := by decide +kernel
theorem d_Model_init_817 : decode b_Model_init 817 = .ok (.bipush 53, 2) := by decide +kernel
theorem d_Model_init_819 : decode b_Model_init 819 = .ok (.bipush 32, 2) := by decide +kernel
