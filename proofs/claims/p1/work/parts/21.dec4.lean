/-! the law's instructions -/
theorem dl_808 : decode code 808 = .ok (.iconst 0, 1) := by decide +kernel
theorem dl_809 : decode code 809 = .ok (.ireturn, 1) := by decide +kernel
theorem dl_810 : decode code 810 = .ok (.aload_n 1, 1) := by decide +kernel
theorem dl_811 : decode code 811 = .ok (.aload_n 0, 1) := by decide +kernel
theorem dl_812 : decode code 812 = .ok (.iload_n 3, 1) := by decide +kernel
theorem dl_813 : decode code 813 = .ok (.iconst 1, 1) := by decide +kernel
theorem dl_814 : decode code 814 = .ok (.iadd, 1) := by decide +kernel
theorem dl_815 : decode code 815 = .ok (.iaload, 1) := by decide +kernel
theorem dl_816 : decode code 816 = .ok (.invokevirtual 105, 3) := by decide +kernel
theorem dl_819 : decode code 819 = .ok (.aload_n 2, 1) := by decide +kernel
theorem dl_820 : decode code 820 = .ok (.aload_n 0, 1) := by decide +kernel
theorem dl_821 : decode code 821 = .ok (.iload_n 3, 1) := by decide +kernel
theorem dl_822 : decode code 822 = .ok (.iconst 1, 1) := by decide +kernel
theorem dl_823 : decode code 823 = .ok (.iadd, 1) := by decide +kernel
theorem dl_824 : decode code 824 = .ok (.iaload, 1) := by decide +kernel
theorem dl_825 : decode code 825 = .ok (.invokevirtual 108, 3) := by decide +kernel
theorem dl_828 : decode code 828 = .ok (.if_icmp .eq 312, 3) := by decide +kernel
theorem dl_831 : decode code 831 = .ok (.iconst 0, 1) := by decide +kernel
theorem dl_832 : decode code 832 = .ok (.ireturn, 1) := by decide +kernel
theorem dl_833 : decode code 833 = .ok (.aload_n 1, 1) := by decide +kernel
theorem dl_834 : decode code 834 = .ok (.aload_n 0, 1) := by decide +kernel
theorem dl_835 : decode code 835 = .ok (.iload_n 3, 1) := by decide +kernel
theorem dl_836 : decode code 836 = .ok (.iconst 1, 1) := by decide +kernel
theorem dl_837 : decode code 837 = .ok (.iadd, 1) := by decide +kernel
theorem dl_838 : decode code 838 = .ok (.iaload, 1) := by decide +kernel
theorem dl_839 : decode code 839 = .ok (.invokevirtual 109, 3) := by decide +kernel
theorem dl_842 : decode code 842 = .ok (.aload_n 2, 1) := by decide +kernel
theorem dl_843 : decode code 843 = .ok (.aload_n 0, 1) := by decide +kernel
theorem dl_844 : decode code 844 = .ok (.iload_n 3, 1) := by decide +kernel
theorem dl_845 : decode code 845 = .ok (.iconst 1, 1) := by decide +kernel
theorem dl_846 : decode code 846 = .ok (.iadd, 1) := by decide +kernel
theorem dl_847 : decode code 847 = .ok (.iaload, 1) := by decide +kernel
theorem dl_848 : decode code 848 = .ok (.invokevirtual 112, 3) := by decide +kernel
theorem dl_851 : decode code 851 = .ok (.if_icmp .eq 289, 3) := by decide +kernel
theorem dl_854 : decode code 854 = .ok (.iconst 0, 1) := by decide +kernel
theorem dl_855 : decode code 855 = .ok (.ireturn, 1) := by decide +kernel
theorem dl_856 : decode code 856 = .ok (.aload_n 1, 1) := by decide +kernel
theorem dl_857 : decode code 857 = .ok (.aload_n 0, 1) := by decide +kernel
theorem dl_858 : decode code 858 = .ok (.iload_n 3, 1) := by decide +kernel
theorem dl_859 : decode code 859 = .ok (.iconst 1, 1) := by decide +kernel
theorem dl_860 : decode code 860 = .ok (.iadd, 1) := by decide +kernel
theorem dl_861 : decode code 861 = .ok (.iaload, 1) := by decide +kernel
theorem dl_862 : decode code 862 = .ok (.aload_n 0, 1) := by decide +kernel
theorem dl_863 : decode code 863 = .ok (.iload_n 3, 1) := by decide +kernel
theorem dl_864 : decode code 864 = .ok (.iconst 2, 1) := by decide +kernel
theorem dl_865 : decode code 865 = .ok (.iadd, 1) := by decide +kernel
theorem dl_866 : decode code 866 = .ok (.iaload, 1) := by decide +kernel
theorem dl_867 : decode code 867 = .ok (.invokevirtual 113, 3) := by decide +kernel
theorem dl_870 : decode code 870 = .ok (.aload_n 2, 1) := by decide +kernel
theorem dl_871 : decode code 871 = .ok (.aload_n 0, 1) := by decide +kernel
theorem dl_872 : decode code 872 = .ok (.iload_n 3, 1) := by decide +kernel
theorem dl_873 : decode code 873 = .ok (.iconst 1, 1) := by decide +kernel
theorem dl_874 : decode code 874 = .ok (.iadd, 1) := by decide +kernel
theorem dl_875 : decode code 875 = .ok (.iaload, 1) := by decide +kernel
theorem dl_876 : decode code 876 = .ok (.aload_n 0, 1) := by decide +kernel
theorem dl_877 : decode code 877 = .ok (.iload_n 3, 1) := by decide +kernel
theorem dl_878 : decode code 878 = .ok (.iconst 2, 1) := by decide +kernel
theorem dl_879 : decode code 879 = .ok (.iadd, 1) := by decide +kernel
theorem dl_880 : decode code 880 = .ok (.iaload, 1) := by decide +kernel
theorem dl_881 : decode code 881 = .ok (.invokevirtual 116, 3) := by decide +kernel
theorem dl_884 : decode code 884 = .ok (.lcmp, 1) := by decide +kernel
theorem dl_885 : decode code 885 = .ok (.ifCond .eq 255, 3) := by decide +kernel
theorem dl_888 : decode code 888 = .ok (.iconst 0, 1) := by decide +kernel
theorem dl_889 : decode code 889 = .ok (.ireturn, 1) := by decide +kernel
theorem dl_890 : decode code 890 = .ok (.aload_n 1, 1) := by decide +kernel
theorem dl_891 : decode code 891 = .ok (.aload_n 0, 1) := by decide +kernel
theorem dl_892 : decode code 892 = .ok (.iload_n 3, 1) := by decide +kernel
theorem dl_893 : decode code 893 = .ok (.iconst 1, 1) := by decide +kernel
theorem dl_894 : decode code 894 = .ok (.iadd, 1) := by decide +kernel
theorem dl_895 : decode code 895 = .ok (.iaload, 1) := by decide +kernel
theorem dl_896 : decode code 896 = .ok (.invokevirtual 117, 3) := by decide +kernel
theorem dl_899 : decode code 899 = .ok (.aload_n 2, 1) := by decide +kernel
theorem dl_900 : decode code 900 = .ok (.aload_n 0, 1) := by decide +kernel
theorem dl_901 : decode code 901 = .ok (.iload_n 3, 1) := by decide +kernel
theorem dl_902 : decode code 902 = .ok (.iconst 1, 1) := by decide +kernel
theorem dl_903 : decode code 903 = .ok (.iadd, 1) := by decide +kernel
theorem dl_904 : decode code 904 = .ok (.iaload, 1) := by decide +kernel
theorem dl_905 : decode code 905 = .ok (.invokevirtual 120, 3) := by decide +kernel
theorem dl_908 : decode code 908 = .ok (.if_icmp .eq 232, 3) := by decide +kernel
theorem dl_911 : decode code 911 = .ok (.iconst 0, 1) := by decide +kernel
theorem dl_912 : decode code 912 = .ok (.ireturn, 1) := by decide +kernel
theorem dl_913 : decode code 913 = .ok (.aload_n 1, 1) := by decide +kernel
theorem dl_914 : decode code 914 = .ok (.aload_n 0, 1) := by decide +kernel
theorem dl_915 : decode code 915 = .ok (.iload_n 3, 1) := by decide +kernel
theorem dl_916 : decode code 916 = .ok (.iconst 1, 1) := by decide +kernel
theorem dl_917 : decode code 917 = .ok (.iadd, 1) := by decide +kernel
theorem dl_918 : decode code 918 = .ok (.iaload, 1) := by decide +kernel
theorem dl_919 : decode code 919 = .ok (.aload_n 0, 1) := by decide +kernel
theorem dl_920 : decode code 920 = .ok (.iload_n 3, 1) := by decide +kernel
theorem dl_921 : decode code 921 = .ok (.iconst 2, 1) := by decide +kernel
theorem dl_922 : decode code 922 = .ok (.iadd, 1) := by decide +kernel
theorem dl_923 : decode code 923 = .ok (.iaload, 1) := by decide +kernel
theorem dl_924 : decode code 924 = .ok (.invokevirtual 121, 3) := by decide +kernel
theorem dl_927 : decode code 927 = .ok (.aload_n 2, 1) := by decide +kernel
theorem dl_928 : decode code 928 = .ok (.aload_n 0, 1) := by decide +kernel
theorem dl_929 : decode code 929 = .ok (.iload_n 3, 1) := by decide +kernel
theorem dl_930 : decode code 930 = .ok (.iconst 1, 1) := by decide +kernel
theorem dl_931 : decode code 931 = .ok (.iadd, 1) := by decide +kernel
theorem dl_932 : decode code 932 = .ok (.iaload, 1) := by decide +kernel
theorem dl_933 : decode code 933 = .ok (.aload_n 0, 1) := by decide +kernel
theorem dl_934 : decode code 934 = .ok (.iload_n 3, 1) := by decide +kernel
theorem dl_935 : decode code 935 = .ok (.iconst 2, 1) := by decide +kernel
theorem dl_936 : decode code 936 = .ok (.iadd, 1) := by decide +kernel
theorem dl_937 : decode code 937 = .ok (.iaload, 1) := by decide +kernel
theorem dl_938 : decode code 938 = .ok (.invokevirtual 124, 3) := by decide +kernel
theorem dl_941 : decode code 941 = .ok (.if_icmp .eq 199, 3) := by decide +kernel
theorem dl_944 : decode code 944 = .ok (.iconst 0, 1) := by decide +kernel
theorem dl_945 : decode code 945 = .ok (.ireturn, 1) := by decide +kernel
theorem dl_946 : decode code 946 = .ok (.aload_n 1, 1) := by decide +kernel
theorem dl_947 : decode code 947 = .ok (.aload_n 0, 1) := by decide +kernel
theorem dl_948 : decode code 948 = .ok (.iload_n 3, 1) := by decide +kernel
theorem dl_949 : decode code 949 = .ok (.iconst 1, 1) := by decide +kernel
theorem dl_950 : decode code 950 = .ok (.iadd, 1) := by decide +kernel
theorem dl_951 : decode code 951 = .ok (.iaload, 1) := by decide +kernel
theorem dl_952 : decode code 952 = .ok (.aload_n 0, 1) := by decide +kernel
theorem dl_953 : decode code 953 = .ok (.iload_n 3, 1) := by decide +kernel
theorem dl_954 : decode code 954 = .ok (.iconst 2, 1) := by decide +kernel
theorem dl_955 : decode code 955 = .ok (.iadd, 1) := by decide +kernel
theorem dl_956 : decode code 956 = .ok (.iaload, 1) := by decide +kernel
theorem dl_957 : decode code 957 = .ok (.invokevirtual 125, 3) := by decide +kernel
theorem dl_960 : decode code 960 = .ok (.aload_n 2, 1) := by decide +kernel
theorem dl_961 : decode code 961 = .ok (.aload_n 0, 1) := by decide +kernel
theorem dl_962 : decode code 962 = .ok (.iload_n 3, 1) := by decide +kernel
theorem dl_963 : decode code 963 = .ok (.iconst 1, 1) := by decide +kernel
theorem dl_964 : decode code 964 = .ok (.iadd, 1) := by decide +kernel
theorem dl_965 : decode code 965 = .ok (.iaload, 1) := by decide +kernel
theorem dl_966 : decode code 966 = .ok (.aload_n 0, 1) := by decide +kernel
theorem dl_967 : decode code 967 = .ok (.iload_n 3, 1) := by decide +kernel
theorem dl_968 : decode code 968 = .ok (.iconst 2, 1) := by decide +kernel
theorem dl_969 : decode code 969 = .ok (.iadd, 1) := by decide +kernel
