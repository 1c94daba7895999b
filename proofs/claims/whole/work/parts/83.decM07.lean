/-! decode rows -/
theorem d_Model_init_821 : decode b_Model_init 821 = .ok (.iastore, 1) := by decide +kernel
theorem d_Model_init_822 : decode b_Model_init 822 = .ok (.dup, 1) := by decide +kernel
theorem d_Model_init_823 : decode b_Model_init 823 = .ok (.bipush 54, 2) := by decide +kernel
theorem d_Model_init_825 : decode b_Model_init 825 = .ok (.bipush 32, 2) := by decide +kernel
theorem d_Model_init_827 : decode b_Model_init 827 = .ok (.iastore, 1) := by decide +kernel
theorem d_Model_init_828 : decode b_Model_init 828 = .ok (.dup, 1) := by decide +kernel
theorem d_Model_init_829 : decode b_Model_init 829 = .ok (.bipush 55, 2) := by decide +kernel
theorem d_Model_init_831 : decode b_Model_init 831 = .ok (.bipush 32, 2) := by decide +kernel
theorem d_Model_init_833 : decode b_Model_init 833 = .ok (.iastore, 1) := by decide +kernel
theorem d_Model_init_834 : decode b_Model_init 834 = .ok (.dup, 1) := by decide +kernel
theorem d_Model_init_835 : decode b_Model_init 835 = .ok (.bipush 56, 2) := by decide +kernel
theorem d_Model_init_837 : decode b_Model_init 837 = .ok (.bipush 97, 2) := by decide +kernel
theorem d_Model_init_839 : decode b_Model_init 839 = .ok (.iastore, 1) := by decide +kernel
theorem d_Model_init_840 : decode b_Model_init 840 = .ok (.dup, 1) := by decide +kernel
theorem d_Model_init_841 : decode b_Model_init 841 = .ok (.bipush 57, 2) := by decide +kernel
theorem d_Model_init_843 : decode b_Model_init 843 = .ok (.bipush 110, 2) := by decide +kernel
theorem d_Model_init_845 : decode b_Model_init 845 = .ok (.iastore, 1) := by decide +kernel
theorem d_Model_init_846 : decode b_Model_init 846 = .ok (.dup, 1) := by decide +kernel
theorem d_Model_init_847 : decode b_Model_init 847 = .ok (.bipush 58, 2) := by decide +kernel
theorem d_Model_init_849 : decode b_Model_init 849 = .ok (.bipush 103, 2) := by decide +kernel
theorem d_Model_init_851 : decode b_Model_init 851 = .ok (.iastore, 1) := by decide +kernel
theorem d_Model_init_852 : decode b_Model_init 852 = .ok (.dup, 1) := by decide +kernel
theorem d_Model_init_853 : decode b_Model_init 853 = .ok (.bipush 59, 2) := by decide +kernel
theorem d_Model_init_855 : decode b_Model_init 855 = .ok (.bipush 108, 2) := by decide +kernel
theorem d_Model_init_857 : decode b_Model_init 857 = .ok (.iastore, 1) := by decide +kernel
theorem d_Model_init_858 : decode b_Model_init 858 = .ok (.dup, 1) := by decide +kernel
theorem d_Model_init_859 : decode b_Model_init 859 = .ok (.bipush 60, 2) := by decide +kernel
theorem d_Model_init_861 : decode b_Model_init 861 = .ok (.bipush 101, 2) := by decide +kernel
theorem d_Model_init_863 : decode b_Model_init 863 = .ok (.iastore, 1) := by decide +kernel
theorem d_Model_init_864 : decode b_Model_init 864 = .ok (.dup, 1) := by decide +kernel
theorem d_Model_init_865 : decode b_Model_init 865 = .ok (.bipush 61, 2) := by decide +kernel
theorem d_Model_init_867 : decode b_Model_init 867 = .ok (.bipush 32, 2) := by decide +kernel
theorem d_Model_init_869 : decode b_Model_init 869 = .ok (.iastore, 1) := by decide +kernel
theorem d_Model_init_870 : decode b_Model_init 870 = .ok (.dup, 1) := by decide +kernel
theorem d_Model_init_871 : decode b_Model_init 871 = .ok (.bipush 62, 2) := by decide +kernel
theorem d_Model_init_873 : decode b_Model_init 873 = .ok (.bipush 32, 2) := by decide +kernel
theorem d_Model_init_875 : decode b_Model_init 875 = .ok (.iastore, 1) := by decide +kernel
theorem d_Model_init_876 : decode b_Model_init 876 = .ok (.dup, 1) := by decide +kernel
theorem d_Model_init_877 : decode b_Model_init 877 = .ok (.bipush 63, 2) := by decide +kernel
theorem d_Model_init_879 : decode b_Model_init 879 = .ok (.bipush 32, 2) := by decide +kernel
theorem d_Model_init_881 : decode b_Model_init 881 = .ok (.iastore, 1) := by decide +kernel
theorem d_Model_init_882 : decode b_Model_init 882 = .ok (.dup, 1) := by decide +kernel
theorem d_Model_init_883 : decode b_Model_init 883 = .ok (.bipush 64, 2) := by decide +kernel
theorem d_Model_init_885 : decode b_Model_init 885 = .ok (.bipush 116, 2) := by decide +kernel
theorem d_Model_init_887 : decode b_Model_init 887 = .ok (.iastore, 1) := by decide +kernel
theorem d_Model_init_888 : decode b_Model_init 888 = .ok (.dup, 1) := by decide +kernel
theorem d_Model_init_889 : decode b_Model_init 889 = .ok (.bipush 65, 2) := by decide +kernel
theorem d_Model_init_891 : decode b_Model_init 891 = .ok (.bipush 101, 2) := by decide +kernel
theorem d_Model_init_893 : decode b_Model_init 893 = .ok (.iastore, 1) := by decide +kernel
theorem d_Model_init_894 : decode b_Model_init 894 = .ok (.dup, 1) := by decide +kernel
theorem d_Model_init_895 : decode b_Model_init 895 = .ok (.bipush 66, 2) := by decide +kernel
theorem d_Model_init_897 : decode b_Model_init 897 = .ok (.bipush 110, 2) := by decide +kernel
theorem d_Model_init_899 : decode b_Model_init 899 = .ok (.iastore, 1) := by decide +kernel
theorem d_Model_init_900 : decode b_Model_init 900 = .ok (.dup, 1) := by decide +kernel
theorem d_Model_init_901 : decode b_Model_init 901 = .ok (.bipush 67, 2) := by decide +kernel
theorem d_Model_init_903 : decode b_Model_init 903 = .ok (.bipush 116, 2) := by decide +kernel
theorem d_Model_init_905 : decode b_Model_init 905 = .ok (.iastore, 1) := by decide +kernel
theorem d_Model_init_906 : decode b_Model_init 906 = .ok (.dup, 1) := by decide +kernel
theorem d_Model_init_907 : decode b_Model_init 907 = .ok (.bipush 68, 2) := by decide +kernel
theorem d_Model_init_909 : decode b_Model_init 909 = .ok (.bipush 104, 2) := by decide +kernel
theorem d_Model_init_911 : decode b_Model_init 911 = .ok (.iastore, 1) := by decide +kernel
theorem d_Model_init_912 : decode b_Model_init 912 = .ok (.dup, 1) := by decide +kernel
theorem d_Model_init_913 : decode b_Model_init 913 = .ok (.bipush 69, 2) := by decide +kernel
theorem d_Model_init_915 : decode b_Model_init 915 = .ok (.bipush 32, 2) := by decide +kernel
theorem d_Model_init_917 : decode b_Model_init 917 = .ok (.iastore, 1) := by decide +kernel
theorem d_Model_init_918 : decode b_Model_init 918 = .ok (.dup, 1) := by decide +kernel
theorem d_Model_init_919 : decode b_Model_init 919 = .ok (.bipush 70, 2) := by decide +kernel
theorem d_Model_init_921 : decode b_Model_init 921 = .ok (.bipush 32, 2) := by decide +kernel
theorem d_Model_init_923 : decode b_Model_init 923 = .ok (.iastore, 1) := by decide +kernel
theorem d_Model_init_924 : decode b_Model_init 924 = .ok (.dup, 1) := by decide +kernel
theorem d_Model_init_925 : decode b_Model_init 925 = .ok (.bipush 71, 2) := by decide +kernel
theorem d_Model_init_927 : decode b_Model_init 927 = .ok (.bipush 32, 2) := by decide +kernel
theorem d_Model_init_929 : decode b_Model_init 929 = .ok (.iastore, 1) := by decide +kernel
theorem d_Model_init_930 : decode b_Model_init 930 = .ok (.dup, 1) := by decide +kernel
theorem d_Model_init_931 : decode b_Model_init 931 = .ok (.bipush 72, 2) := by decide +kernel
theorem d_Model_init_933 : decode b_Model_init 933 = .ok (.bipush 111, 2) := by decide +kernel
theorem d_Model_init_935 : decode b_Model_init 935 = .ok (.iastore, 1) := by decide +kernel
theorem d_Model_init_936 : decode b_Model_init 936 = .ok (.dup, 1) := by decide +kernel
theorem d_Model_init_937 : decode b_Model_init 937 = .ok (.bipush 73, 2) := by decide +kernel
theorem d_Model_init_939 : decode b_Model_init 939 = .ok (.bipush 114, 2) := by decide +kernel
theorem d_Model_init_941 : decode b_Model_init 941 = .ok (.iastore, 1) := by decide +kernel
theorem d_Model_init_942 : decode b_Model_init 942 = .ok (.dup, 1) := by decide +kernel
theorem d_Model_init_943 : decode b_Model_init 943 = .ok (.bipush 74, 2) := by decide +kernel
theorem d_Model_init_945 : decode b_Model_init 945 = .ok (.bipush 32, 2) := by decide +kernel
theorem d_Model_init_947 : decode b_Model_init 947 = .ok (.iastore, 1) := by decide +kernel
theorem d_Model_init_948 : decode b_Model_init 948 = .ok (.dup, 1) := by decide +kernel
theorem d_Model_init_949 : decode b_Model_init 949 = .ok (.bipush 75, 2) := by decide +kernel
theorem d_Model_init_951 : decode b_Model_init 951 = .ok (.bipush 32, 2) := by decide +kernel
theorem d_Model_init_953 : decode b_Model_init 953 = .ok (.iastore, 1) := by decide +kernel
theorem d_Model_init_954 : decode b_Model_init 954 = .ok (.dup, 1) := by decide +kernel
