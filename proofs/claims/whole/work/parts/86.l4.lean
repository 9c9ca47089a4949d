theorem dL_law_3915 : decode cL_law 3915 = .ok (.iconst 2, 1) := by decide +kernel
theorem dL_law_3916 : decode cL_law 3916 = .ok (.iadd, 1) := by decide +kernel
theorem dL_law_3917 : decode cL_law 3917 = .ok (.iaload, 1) := by decide +kernel
theorem dL_law_3918 : decode cL_law 3918 = .ok (.invokevirtual 370, 3) := by decide +kernel
theorem dL_law_3921 : decode cL_law 3921 = .ok (.fstore 7, 2) := by decide +kernel
theorem dL_law_3923 : decode cL_law 3923 = .ok (.aload_n 2, 1) := by decide +kernel
theorem dL_law_3924 : decode cL_law 3924 = .ok (.invokevirtual 189, 3) := by decide +kernel
theorem dL_law_3927 : decode cL_law 3927 = .ok (.iload 6, 2) := by decide +kernel
theorem dL_law_3929 : decode cL_law 3929 = .ok (.if_icmp .eq 5, 3) := by decide +kernel
theorem dL_law_3932 : decode cL_law 3932 = .ok (.iconst 0, 1) := by decide +kernel
theorem dL_law_3933 : decode cL_law 3933 = .ok (.ireturn, 1) := by decide +kernel
theorem dL_law_3934 : decode cL_law 3934 = .ok (.iload 6, 2) := by decide +kernel
theorem dL_law_3936 : decode cL_law 3936 = .ok (.ifCond .ne 36, 3) := by decide +kernel
theorem dL_law_3939 : decode cL_law 3939 = .ok (.aload 4, 2) := by decide +kernel
theorem dL_law_3941 : decode cL_law 3941 = .ok (.iconst 0, 1) := by decide +kernel
theorem dL_law_3942 : decode cL_law 3942 = .ok (.daload, 1) := by decide +kernel
theorem dL_law_3943 : decode cL_law 3943 = .ok (.fload 7, 2) := by decide +kernel
theorem dL_law_3945 : decode cL_law 3945 = .ok (.f2d, 1) := by decide +kernel
theorem dL_law_3946 : decode cL_law 3946 = .ok (.dcmp .l, 1) := by decide +kernel
theorem dL_law_3947 : decode cL_law 3947 = .ok (.ifCond .eq 25, 3) := by decide +kernel
theorem dL_law_3950 : decode cL_law 3950 = .ok (.aload 4, 2) := by decide +kernel
theorem dL_law_3952 : decode cL_law 3952 = .ok (.iconst 0, 1) := by decide +kernel
theorem dL_law_3953 : decode cL_law 3953 = .ok (.daload, 1) := by decide +kernel
theorem dL_law_3954 : decode cL_law 3954 = .ok (.aload 4, 2) := by decide +kernel
theorem dL_law_3956 : decode cL_law 3956 = .ok (.iconst 0, 1) := by decide +kernel
theorem dL_law_3957 : decode cL_law 3957 = .ok (.daload, 1) := by decide +kernel
theorem dL_law_3958 : decode cL_law 3958 = .ok (.dcmp .l, 1) := by decide +kernel
theorem dL_law_3959 : decode cL_law 3959 = .ok (.ifCond .eq 11, 3) := by decide +kernel
theorem dL_law_3962 : decode cL_law 3962 = .ok (.fload 7, 2) := by decide +kernel
theorem dL_law_3964 : decode cL_law 3964 = .ok (.fload 7, 2) := by decide +kernel
theorem dL_law_3966 : decode cL_law 3966 = .ok (.fcmp .l, 1) := by decide +kernel
theorem dL_law_3967 : decode cL_law 3967 = .ok (.ifCond .ne 5, 3) := by decide +kernel
theorem dL_law_3970 : decode cL_law 3970 = .ok (.iconst 0, 1) := by decide +kernel
theorem dL_law_3971 : decode cL_law 3971 = .ok (.ireturn, 1) := by decide +kernel
theorem dL_law_3972 : decode cL_law 3972 = .ok (.goto 16, 3) := by decide +kernel
theorem dL_law_3975 : decode cL_law 3975 = .ok (.aload_n 1, 1) := by decide +kernel
theorem dL_law_3976 : decode cL_law 3976 = .ok (.invokevirtual 371, 3) := by decide +kernel
theorem dL_law_3979 : decode cL_law 3979 = .ok (.aload_n 2, 1) := by decide +kernel
theorem dL_law_3980 : decode cL_law 3980 = .ok (.invokevirtual 374, 3) := by decide +kernel
theorem dL_law_3983 : decode cL_law 3983 = .ok (.if_icmp .eq 5, 3) := by decide +kernel
theorem dL_law_3986 : decode cL_law 3986 = .ok (.iconst 0, 1) := by decide +kernel
theorem dL_law_3987 : decode cL_law 3987 = .ok (.ireturn, 1) := by decide +kernel
theorem dL_law_3988 : decode cL_law 3988 = .ok (.iinc 5 8, 3) := by decide +kernel
theorem dL_law_3991 : decode cL_law 3991 = .ok (.goto (-3963), 3) := by decide +kernel
theorem dL_law_3994 : decode cL_law 3994 = .ok (.iconst 1, 1) := by decide +kernel
theorem dL_law_3995 : decode cL_law 3995 = .ok (.ireturn, 1) := by decide +kernel
