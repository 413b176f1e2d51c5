theorem dl_838 : decode code 838 = .ok (.ireturn, 1) := by decide +kernel
theorem dl_839 : decode code 839 = .ok (.aload_n 1, 1) := by decide +kernel
theorem dl_840 : decode code 840 = .ok (.aload_n 0, 1) := by decide +kernel
theorem dl_841 : decode code 841 = .ok (.iload_n 3, 1) := by decide +kernel
theorem dl_842 : decode code 842 = .ok (.iconst 1, 1) := by decide +kernel
theorem dl_843 : decode code 843 = .ok (.iadd, 1) := by decide +kernel
theorem dl_844 : decode code 844 = .ok (.iaload, 1) := by decide +kernel
theorem dl_845 : decode code 845 = .ok (.aload_n 0, 1) := by decide +kernel
theorem dl_846 : decode code 846 = .ok (.iload_n 3, 1) := by decide +kernel
theorem dl_847 : decode code 847 = .ok (.iconst 2, 1) := by decide +kernel
theorem dl_848 : decode code 848 = .ok (.iadd, 1) := by decide +kernel
theorem dl_849 : decode code 849 = .ok (.iaload, 1) := by decide +kernel
theorem dl_850 : decode code 850 = .ok (.ifCond .eq 7, 3) := by decide +kernel
theorem dl_853 : decode code 853 = .ok (.iconst 1, 1) := by decide +kernel
theorem dl_854 : decode code 854 = .ok (.goto 4, 3) := by decide +kernel
theorem dl_857 : decode code 857 = .ok (.iconst 0, 1) := by decide +kernel
theorem dl_858 : decode code 858 = .ok (.invokevirtual 111, 3) := by decide +kernel
theorem dl_861 : decode code 861 = .ok (.aload_n 2, 1) := by decide +kernel
theorem dl_862 : decode code 862 = .ok (.aload_n 0, 1) := by decide +kernel
theorem dl_863 : decode code 863 = .ok (.iload_n 3, 1) := by decide +kernel
theorem dl_864 : decode code 864 = .ok (.iconst 1, 1) := by decide +kernel
theorem dl_865 : decode code 865 = .ok (.iadd, 1) := by decide +kernel
theorem dl_866 : decode code 866 = .ok (.iaload, 1) := by decide +kernel
theorem dl_867 : decode code 867 = .ok (.aload_n 0, 1) := by decide +kernel
theorem dl_868 : decode code 868 = .ok (.iload_n 3, 1) := by decide +kernel
theorem dl_869 : decode code 869 = .ok (.iconst 2, 1) := by decide +kernel
theorem dl_870 : decode code 870 = .ok (.iadd, 1) := by decide +kernel
theorem dl_871 : decode code 871 = .ok (.iaload, 1) := by decide +kernel
theorem dl_872 : decode code 872 = .ok (.ifCond .eq 7, 3) := by decide +kernel
theorem dl_875 : decode code 875 = .ok (.iconst 1, 1) := by decide +kernel
theorem dl_876 : decode code 876 = .ok (.goto 4, 3) := by decide +kernel
theorem dl_879 : decode code 879 = .ok (.iconst 0, 1) := by decide +kernel
theorem dl_880 : decode code 880 = .ok (.invokevirtual 114, 3) := by decide +kernel
theorem dl_883 : decode code 883 = .ok (.if_icmp .eq 100, 3) := by decide +kernel
theorem dl_886 : decode code 886 = .ok (.iconst 0, 1) := by decide +kernel
theorem dl_887 : decode code 887 = .ok (.ireturn, 1) := by decide +kernel
theorem dl_888 : decode code 888 = .ok (.aload_n 1, 1) := by decide +kernel
theorem dl_889 : decode code 889 = .ok (.invokevirtual 115, 3) := by decide +kernel
theorem dl_892 : decode code 892 = .ok (.aload_n 2, 1) := by decide +kernel
theorem dl_893 : decode code 893 = .ok (.invokevirtual 118, 3) := by decide +kernel
theorem dl_896 : decode code 896 = .ok (.if_icmp .eq 87, 3) := by decide +kernel
theorem dl_899 : decode code 899 = .ok (.iconst 0, 1) := by decide +kernel
theorem dl_900 : decode code 900 = .ok (.ireturn, 1) := by decide +kernel
theorem dl_901 : decode code 901 = .ok (.aload_n 1, 1) := by decide +kernel
theorem dl_902 : decode code 902 = .ok (.invokevirtual 119, 3) := by decide +kernel
theorem dl_905 : decode code 905 = .ok (.aload_n 2, 1) := by decide +kernel
theorem dl_906 : decode code 906 = .ok (.invokevirtual 122, 3) := by decide +kernel
theorem dl_909 : decode code 909 = .ok (.if_icmp .eq 74, 3) := by decide +kernel
theorem dl_912 : decode code 912 = .ok (.iconst 0, 1) := by decide +kernel
theorem dl_913 : decode code 913 = .ok (.ireturn, 1) := by decide +kernel
theorem dl_914 : decode code 914 = .ok (.aload_n 1, 1) := by decide +kernel
theorem dl_915 : decode code 915 = .ok (.aload_n 0, 1) := by decide +kernel
theorem dl_916 : decode code 916 = .ok (.iload_n 3, 1) := by decide +kernel
theorem dl_917 : decode code 917 = .ok (.iconst 1, 1) := by decide +kernel
theorem dl_918 : decode code 918 = .ok (.iadd, 1) := by decide +kernel
theorem dl_919 : decode code 919 = .ok (.iaload, 1) := by decide +kernel
theorem dl_920 : decode code 920 = .ok (.invokevirtual 123, 3) := by decide +kernel
theorem dl_923 : decode code 923 = .ok (.aload_n 2, 1) := by decide +kernel
theorem dl_924 : decode code 924 = .ok (.aload_n 0, 1) := by decide +kernel
theorem dl_925 : decode code 925 = .ok (.iload_n 3, 1) := by decide +kernel
theorem dl_926 : decode code 926 = .ok (.iconst 1, 1) := by decide +kernel
theorem dl_927 : decode code 927 = .ok (.iadd, 1) := by decide +kernel
theorem dl_928 : decode code 928 = .ok (.iaload, 1) := by decide +kernel
theorem dl_929 : decode code 929 = .ok (.invokevirtual 126, 3) := by decide +kernel
theorem dl_932 : decode code 932 = .ok (.if_icmp .eq 51, 3) := by decide +kernel
theorem dl_935 : decode code 935 = .ok (.iconst 0, 1) := by decide +kernel
theorem dl_936 : decode code 936 = .ok (.ireturn, 1) := by decide +kernel
theorem dl_937 : decode code 937 = .ok (.aload_n 1, 1) := by decide +kernel
theorem dl_938 : decode code 938 = .ok (.aload_n 0, 1) := by decide +kernel
theorem dl_939 : decode code 939 = .ok (.iload_n 3, 1) := by decide +kernel
theorem dl_940 : decode code 940 = .ok (.iconst 1, 1) := by decide +kernel
theorem dl_941 : decode code 941 = .ok (.iadd, 1) := by decide +kernel
theorem dl_942 : decode code 942 = .ok (.iaload, 1) := by decide +kernel
theorem dl_943 : decode code 943 = .ok (.invokevirtual 127, 3) := by decide +kernel
theorem dl_946 : decode code 946 = .ok (.aload_n 2, 1) := by decide +kernel
theorem dl_947 : decode code 947 = .ok (.aload_n 0, 1) := by decide +kernel
theorem dl_948 : decode code 948 = .ok (.iload_n 3, 1) := by decide +kernel
theorem dl_949 : decode code 949 = .ok (.iconst 1, 1) := by decide +kernel
theorem dl_950 : decode code 950 = .ok (.iadd, 1) := by decide +kernel
theorem dl_951 : decode code 951 = .ok (.iaload, 1) := by decide +kernel
theorem dl_952 : decode code 952 = .ok (.invokevirtual 130, 3) := by decide +kernel
theorem dl_955 : decode code 955 = .ok (.if_icmp .eq 28, 3) := by decide +kernel
theorem dl_958 : decode code 958 = .ok (.iconst 0, 1) := by decide +kernel
theorem dl_959 : decode code 959 = .ok (.ireturn, 1) := by decide +kernel
theorem dl_960 : decode code 960 = .ok (.aload_n 1, 1) := by decide +kernel
theorem dl_961 : decode code 961 = .ok (.aload_n 0, 1) := by decide +kernel
theorem dl_962 : decode code 962 = .ok (.iload_n 3, 1) := by decide +kernel
theorem dl_963 : decode code 963 = .ok (.iconst 1, 1) := by decide +kernel
theorem dl_964 : decode code 964 = .ok (.iadd, 1) := by decide +kernel
theorem dl_965 : decode code 965 = .ok (.iaload, 1) := by decide +kernel
theorem dl_966 : decode code 966 = .ok (.invokevirtual 131, 3) := by decide +kernel
theorem dl_969 : decode code 969 = .ok (.aload_n 2, 1) := by decide +kernel
theorem dl_970 : decode code 970 = .ok (.aload_n 0, 1) := by decide +kernel
theorem dl_971 : decode code 971 = .ok (.iload_n 3, 1) := by decide +kernel
theorem dl_972 : decode code 972 = .ok (.iconst 1, 1) := by decide +kernel
theorem dl_973 : decode code 973 = .ok (.iadd, 1) := by decide +kernel
theorem dl_974 : decode code 974 = .ok (.iaload, 1) := by decide +kernel
theorem dl_975 : decode code 975 = .ok (.invokevirtual 134, 3) := by decide +kernel
theorem dl_978 : decode code 978 = .ok (.if_icmp .eq 5, 3) := by decide +kernel
theorem dl_981 : decode code 981 = .ok (.iconst 0, 1) := by decide +kernel
theorem dl_982 : decode code 982 = .ok (.ireturn, 1) := by decide +kernel
theorem dl_983 : decode code 983 = .ok (.iinc 3 5, 3) := by decide +kernel
theorem dl_986 : decode code 986 = .ok (.goto (-968), 3) := by decide +kernel
theorem dl_989 : decode code 989 = .ok (.iconst 1, 1) := by decide +kernel
theorem dl_990 : decode code 990 = .ok (.ireturn, 1) := by decide +kernel
