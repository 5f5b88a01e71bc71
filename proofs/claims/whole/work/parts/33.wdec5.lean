theorem dL_law_2880 : decode cL_law 2880 = .ok (.invokevirtual 311, 3) := by decide +kernel
theorem dL_law_2883 : decode cL_law 2883 = .ok (.aload_n 2, 1) := by decide +kernel
theorem dL_law_2884 : decode cL_law 2884 = .ok (.invokevirtual 314, 3) := by decide +kernel
theorem dL_law_2887 : decode cL_law 2887 = .ok (.if_icmp .eq 671, 3) := by decide +kernel
theorem dL_law_2890 : decode cL_law 2890 = .ok (.iconst 0, 1) := by decide +kernel
theorem dL_law_2891 : decode cL_law 2891 = .ok (.ireturn, 1) := by decide +kernel
theorem dL_law_2892 : decode cL_law 2892 = .ok (.aload_n 1, 1) := by decide +kernel
theorem dL_law_2893 : decode cL_law 2893 = .ok (.aload_n 0, 1) := by decide +kernel
theorem dL_law_2894 : decode cL_law 2894 = .ok (.iload 4, 2) := by decide +kernel
theorem dL_law_2896 : decode cL_law 2896 = .ok (.iconst 1, 1) := by decide +kernel
theorem dL_law_2897 : decode cL_law 2897 = .ok (.iadd, 1) := by decide +kernel
theorem dL_law_2898 : decode cL_law 2898 = .ok (.iaload, 1) := by decide +kernel
theorem dL_law_2899 : decode cL_law 2899 = .ok (.aload_n 0, 1) := by decide +kernel
theorem dL_law_2900 : decode cL_law 2900 = .ok (.iload 4, 2) := by decide +kernel
theorem dL_law_2902 : decode cL_law 2902 = .ok (.iconst 2, 1) := by decide +kernel
theorem dL_law_2903 : decode cL_law 2903 = .ok (.iadd, 1) := by decide +kernel
theorem dL_law_2904 : decode cL_law 2904 = .ok (.iaload, 1) := by decide +kernel
theorem dL_law_2905 : decode cL_law 2905 = .ok (.aload_n 3, 1) := by decide +kernel
theorem dL_law_2906 : decode cL_law 2906 = .ok (.invokestatic 315, 3) := by decide +kernel
theorem dL_law_2909 : decode cL_law 2909 = .ok (.istore 5, 2) := by decide +kernel
theorem dL_law_2911 : decode cL_law 2911 = .ok (.aload_n 2, 1) := by decide +kernel
theorem dL_law_2912 : decode cL_law 2912 = .ok (.aload_n 0, 1) := by decide +kernel
theorem dL_law_2913 : decode cL_law 2913 = .ok (.iload 4, 2) := by decide +kernel
theorem dL_law_2915 : decode cL_law 2915 = .ok (.iconst 1, 1) := by decide +kernel
theorem dL_law_2916 : decode cL_law 2916 = .ok (.iadd, 1) := by decide +kernel
theorem dL_law_2917 : decode cL_law 2917 = .ok (.iaload, 1) := by decide +kernel
theorem dL_law_2918 : decode cL_law 2918 = .ok (.aload_n 0, 1) := by decide +kernel
theorem dL_law_2919 : decode cL_law 2919 = .ok (.iload 4, 2) := by decide +kernel
theorem dL_law_2921 : decode cL_law 2921 = .ok (.iconst 2, 1) := by decide +kernel
theorem dL_law_2922 : decode cL_law 2922 = .ok (.iadd, 1) := by decide +kernel
theorem dL_law_2923 : decode cL_law 2923 = .ok (.iaload, 1) := by decide +kernel
theorem dL_law_2924 : decode cL_law 2924 = .ok (.invokevirtual 317, 3) := by decide +kernel
theorem dL_law_2927 : decode cL_law 2927 = .ok (.istore 6, 2) := by decide +kernel
theorem dL_law_2929 : decode cL_law 2929 = .ok (.aload_n 2, 1) := by decide +kernel
theorem dL_law_2930 : decode cL_law 2930 = .ok (.invokevirtual 184, 3) := by decide +kernel
theorem dL_law_2933 : decode cL_law 2933 = .ok (.iload 5, 2) := by decide +kernel
theorem dL_law_2935 : decode cL_law 2935 = .ok (.if_icmp .eq 5, 3) := by decide +kernel
theorem dL_law_2938 : decode cL_law 2938 = .ok (.iconst 0, 1) := by decide +kernel
theorem dL_law_2939 : decode cL_law 2939 = .ok (.ireturn, 1) := by decide +kernel
theorem dL_law_2940 : decode cL_law 2940 = .ok (.iload 5, 2) := by decide +kernel
theorem dL_law_2942 : decode cL_law 2942 = .ok (.ifCond .ne 15, 3) := by decide +kernel
theorem dL_law_2945 : decode cL_law 2945 = .ok (.aload_n 3, 1) := by decide +kernel
theorem dL_law_2946 : decode cL_law 2946 = .ok (.iconst 0, 1) := by decide +kernel
theorem dL_law_2947 : decode cL_law 2947 = .ok (.laload, 1) := by decide +kernel
theorem dL_law_2948 : decode cL_law 2948 = .ok (.iload 6, 2) := by decide +kernel
theorem dL_law_2950 : decode cL_law 2950 = .ok (.i2l, 1) := by decide +kernel
theorem dL_law_2951 : decode cL_law 2951 = .ok (.lcmp, 1) := by decide +kernel
theorem dL_law_2952 : decode cL_law 2952 = .ok (.ifCond .eq 5, 3) := by decide +kernel
theorem dL_law_2955 : decode cL_law 2955 = .ok (.iconst 0, 1) := by decide +kernel
theorem dL_law_2956 : decode cL_law 2956 = .ok (.ireturn, 1) := by decide +kernel
theorem dL_law_2957 : decode cL_law 2957 = .ok (.goto 601, 3) := by decide +kernel
theorem dL_law_2960 : decode cL_law 2960 = .ok (.aload_n 1, 1) := by decide +kernel
theorem dL_law_2961 : decode cL_law 2961 = .ok (.aload_n 0, 1) := by decide +kernel
theorem dL_law_2962 : decode cL_law 2962 = .ok (.iload 4, 2) := by decide +kernel
theorem dL_law_2964 : decode cL_law 2964 = .ok (.iconst 1, 1) := by decide +kernel
theorem dL_law_2965 : decode cL_law 2965 = .ok (.iadd, 1) := by decide +kernel
theorem dL_law_2966 : decode cL_law 2966 = .ok (.iaload, 1) := by decide +kernel
theorem dL_law_2967 : decode cL_law 2967 = .ok (.aload_n 3, 1) := by decide +kernel
theorem dL_law_2968 : decode cL_law 2968 = .ok (.invokestatic 318, 3) := by decide +kernel
theorem dL_law_2971 : decode cL_law 2971 = .ok (.istore 5, 2) := by decide +kernel
theorem dL_law_2973 : decode cL_law 2973 = .ok (.aload_n 2, 1) := by decide +kernel
theorem dL_law_2974 : decode cL_law 2974 = .ok (.aload_n 0, 1) := by decide +kernel
theorem dL_law_2975 : decode cL_law 2975 = .ok (.iload 4, 2) := by decide +kernel
theorem dL_law_2977 : decode cL_law 2977 = .ok (.iconst 1, 1) := by decide +kernel
theorem dL_law_2978 : decode cL_law 2978 = .ok (.iadd, 1) := by decide +kernel
theorem dL_law_2979 : decode cL_law 2979 = .ok (.iaload, 1) := by decide +kernel
theorem dL_law_2980 : decode cL_law 2980 = .ok (.invokevirtual 320, 3) := by decide +kernel
theorem dL_law_2983 : decode cL_law 2983 = .ok (.istore 6, 2) := by decide +kernel
theorem dL_law_2985 : decode cL_law 2985 = .ok (.aload_n 2, 1) := by decide +kernel
theorem dL_law_2986 : decode cL_law 2986 = .ok (.invokevirtual 184, 3) := by decide +kernel
theorem dL_law_2989 : decode cL_law 2989 = .ok (.iload 5, 2) := by decide +kernel
theorem dL_law_2991 : decode cL_law 2991 = .ok (.if_icmp .eq 5, 3) := by decide +kernel
theorem dL_law_2994 : decode cL_law 2994 = .ok (.iconst 0, 1) := by decide +kernel
theorem dL_law_2995 : decode cL_law 2995 = .ok (.ireturn, 1) := by decide +kernel
theorem dL_law_2996 : decode cL_law 2996 = .ok (.iload 5, 2) := by decide +kernel
theorem dL_law_2998 : decode cL_law 2998 = .ok (.ifCond .ne 22, 3) := by decide +kernel
theorem dL_law_3001 : decode cL_law 3001 = .ok (.aload_n 3, 1) := by decide +kernel
theorem dL_law_3002 : decode cL_law 3002 = .ok (.iconst 0, 1) := by decide +kernel
theorem dL_law_3003 : decode cL_law 3003 = .ok (.laload, 1) := by decide +kernel
theorem dL_law_3004 : decode cL_law 3004 = .ok (.iload 6, 2) := by decide +kernel
theorem dL_law_3006 : decode cL_law 3006 = .ok (.ifCond .eq 7, 3) := by decide +kernel
theorem dL_law_3009 : decode cL_law 3009 = .ok (.lconst 1, 1) := by decide +kernel
theorem dL_law_3010 : decode cL_law 3010 = .ok (.goto 4, 3) := by decide +kernel
theorem dL_law_3013 : decode cL_law 3013 = .ok (.lconst 0, 1) := by decide +kernel
theorem dL_law_3014 : decode cL_law 3014 = .ok (.lcmp, 1) := by decide +kernel
theorem dL_law_3015 : decode cL_law 3015 = .ok (.ifCond .eq 5, 3) := by decide +kernel
theorem dL_law_3018 : decode cL_law 3018 = .ok (.iconst 0, 1) := by decide +kernel
theorem dL_law_3019 : decode cL_law 3019 = .ok (.ireturn, 1) := by decide +kernel
theorem dL_law_3020 : decode cL_law 3020 = .ok (.goto 538, 3) := by decide +kernel
theorem dL_law_3023 : decode cL_law 3023 = .ok (.aload_n 1, 1) := by decide +kernel
theorem dL_law_3024 : decode cL_law 3024 = .ok (.aload_n 0, 1) := by decide +kernel
theorem dL_law_3025 : decode cL_law 3025 = .ok (.iload 4, 2) := by decide +kernel
theorem dL_law_3027 : decode cL_law 3027 = .ok (.iconst 1, 1) := by decide +kernel
theorem dL_law_3028 : decode cL_law 3028 = .ok (.iadd, 1) := by decide +kernel
theorem dL_law_3029 : decode cL_law 3029 = .ok (.iaload, 1) := by decide +kernel
theorem dL_law_3030 : decode cL_law 3030 = .ok (.aload_n 3, 1) := by decide +kernel
theorem dL_law_3031 : decode cL_law 3031 = .ok (.invokestatic 321, 3) := by decide +kernel
theorem dL_law_3034 : decode cL_law 3034 = .ok (.istore 5, 2) := by decide +kernel
theorem dL_law_3036 : decode cL_law 3036 = .ok (.aload_n 2, 1) := by decide +kernel
theorem dL_law_3037 : decode cL_law 3037 = .ok (.aload_n 0, 1) := by decide +kernel
theorem dL_law_3038 : decode cL_law 3038 = .ok (.iload 4, 2) := by decide +kernel
theorem dL_law_3040 : decode cL_law 3040 = .ok (.iconst 1, 1) := by decide +kernel
theorem dL_law_3041 : decode cL_law 3041 = .ok (.iadd, 1) := by decide +kernel
theorem dL_law_3042 : decode cL_law 3042 = .ok (.iaload, 1) := by decide +kernel
theorem dL_law_3043 : decode cL_law 3043 = .ok (.invokevirtual 323, 3) := by decide +kernel
theorem dL_law_3046 : decode cL_law 3046 = .ok (.istore 6, 2) := by decide +kernel
theorem dL_law_3048 : decode cL_law 3048 = .ok (.aload_n 2, 1) := by decide +kernel
theorem dL_law_3049 : decode cL_law 3049 = .ok (.invokevirtual 184, 3) := by decide +kernel
theorem dL_law_3052 : decode cL_law 3052 = .ok (.iload 5, 2) := by decide +kernel
theorem dL_law_3054 : decode cL_law 3054 = .ok (.if_icmp .eq 5, 3) := by decide +kernel
theorem dL_law_3057 : decode cL_law 3057 = .ok (.iconst 0, 1) := by decide +kernel
theorem dL_law_3058 : decode cL_law 3058 = .ok (.ireturn, 1) := by decide +kernel
theorem dL_law_3059 : decode cL_law 3059 = .ok (.iload 5, 2) := by decide +kernel
theorem dL_law_3061 : decode cL_law 3061 = .ok (.ifCond .ne 15, 3) := by decide +kernel
theorem dL_law_3064 : decode cL_law 3064 = .ok (.aload_n 3, 1) := by decide +kernel
theorem dL_law_3065 : decode cL_law 3065 = .ok (.iconst 0, 1) := by decide +kernel
theorem dL_law_3066 : decode cL_law 3066 = .ok (.laload, 1) := by decide +kernel
theorem dL_law_3067 : decode cL_law 3067 = .ok (.iload 6, 2) := by decide +kernel
theorem dL_law_3069 : decode cL_law 3069 = .ok (.i2l, 1) := by decide +kernel
theorem dL_law_3070 : decode cL_law 3070 = .ok (.lcmp, 1) := by decide +kernel
theorem dL_law_3071 : decode cL_law 3071 = .ok (.ifCond .eq 5, 3) := by decide +kernel
theorem dL_law_3074 : decode cL_law 3074 = .ok (.iconst 0, 1) := by decide +kernel
theorem dL_law_3075 : decode cL_law 3075 = .ok (.ireturn, 1) := by decide +kernel
theorem dL_law_3076 : decode cL_law 3076 = .ok (.goto 482, 3) := by decide +kernel
theorem dL_law_3079 : decode cL_law 3079 = .ok (.aload_n 1, 1) := by decide +kernel
theorem dL_law_3080 : decode cL_law 3080 = .ok (.aload_n 0, 1) := by decide +kernel
theorem dL_law_3081 : decode cL_law 3081 = .ok (.iload 4, 2) := by decide +kernel
theorem dL_law_3083 : decode cL_law 3083 = .ok (.iconst 1, 1) := by decide +kernel
theorem dL_law_3084 : decode cL_law 3084 = .ok (.iadd, 1) := by decide +kernel
theorem dL_law_3085 : decode cL_law 3085 = .ok (.iaload, 1) := by decide +kernel
theorem dL_law_3086 : decode cL_law 3086 = .ok (.aload_n 3, 1) := by decide +kernel
theorem dL_law_3087 : decode cL_law 3087 = .ok (.invokestatic 324, 3) := by decide +kernel
theorem dL_law_3090 : decode cL_law 3090 = .ok (.istore 5, 2) := by decide +kernel
theorem dL_law_3092 : decode cL_law 3092 = .ok (.aload_n 2, 1) := by decide +kernel
theorem dL_law_3093 : decode cL_law 3093 = .ok (.aload_n 0, 1) := by decide +kernel
theorem dL_law_3094 : decode cL_law 3094 = .ok (.iload 4, 2) := by decide +kernel
theorem dL_law_3096 : decode cL_law 3096 = .ok (.iconst 1, 1) := by decide +kernel
theorem dL_law_3097 : decode cL_law 3097 = .ok (.iadd, 1) := by decide +kernel
theorem dL_law_3098 : decode cL_law 3098 = .ok (.iaload, 1) := by decide +kernel
theorem dL_law_3099 : decode cL_law 3099 = .ok (.invokevirtual 326, 3) := by decide +kernel
theorem dL_law_3102 : decode cL_law 3102 = .ok (.istore 6, 2) := by decide +kernel
theorem dL_law_3104 : decode cL_law 3104 = .ok (.aload_n 2, 1) := by decide +kernel
theorem dL_law_3105 : decode cL_law 3105 = .ok (.invokevirtual 184, 3) := by decide +kernel
theorem dL_law_3108 : decode cL_law 3108 = .ok (.iload 5, 2) := by decide +kernel
theorem dL_law_3110 : decode cL_law 3110 = .ok (.if_icmp .eq 5, 3) := by decide +kernel
theorem dL_law_3113 : decode cL_law 3113 = .ok (.iconst 0, 1) := by decide +kernel
theorem dL_law_3114 : decode cL_law 3114 = .ok (.ireturn, 1) := by decide +kernel
theorem dL_law_3115 : decode cL_law 3115 = .ok (.iload 5, 2) := by decide +kernel
theorem dL_law_3117 : decode cL_law 3117 = .ok (.ifCond .ne 15, 3) := by decide +kernel
theorem dL_law_3120 : decode cL_law 3120 = .ok (.aload_n 3, 1) := by decide +kernel
theorem dL_law_3121 : decode cL_law 3121 = .ok (.iconst 0, 1) := by decide +kernel
theorem dL_law_3122 : decode cL_law 3122 = .ok (.laload, 1) := by decide +kernel
theorem dL_law_3123 : decode cL_law 3123 = .ok (.iload 6, 2) := by decide +kernel
theorem dL_law_3125 : decode cL_law 3125 = .ok (.i2l, 1) := by decide +kernel
theorem dL_law_3126 : decode cL_law 3126 = .ok (.lcmp, 1) := by decide +kernel
theorem dL_law_3127 : decode cL_law 3127 = .ok (.ifCond .eq 5, 3) := by decide +kernel
theorem dL_law_3130 : decode cL_law 3130 = .ok (.iconst 0, 1) := by decide +kernel
theorem dL_law_3131 : decode cL_law 3131 = .ok (.ireturn, 1) := by decide +kernel
theorem dL_law_3132 : decode cL_law 3132 = .ok (.goto 426, 3) := by decide +kernel
theorem dL_law_3135 : decode cL_law 3135 = .ok (.aload_n 1, 1) := by decide +kernel
theorem dL_law_3136 : decode cL_law 3136 = .ok (.aload_n 0, 1) := by decide +kernel
theorem dL_law_3137 : decode cL_law 3137 = .ok (.iload 4, 2) := by decide +kernel
theorem dL_law_3139 : decode cL_law 3139 = .ok (.iconst 1, 1) := by decide +kernel
theorem dL_law_3140 : decode cL_law 3140 = .ok (.iadd, 1) := by decide +kernel
theorem dL_law_3141 : decode cL_law 3141 = .ok (.iaload, 1) := by decide +kernel
theorem dL_law_3142 : decode cL_law 3142 = .ok (.aload_n 3, 1) := by decide +kernel
theorem dL_law_3143 : decode cL_law 3143 = .ok (.invokestatic 327, 3) := by decide +kernel
theorem dL_law_3146 : decode cL_law 3146 = .ok (.istore 5, 2) := by decide +kernel
theorem dL_law_3148 : decode cL_law 3148 = .ok (.aload_n 2, 1) := by decide +kernel
theorem dL_law_3149 : decode cL_law 3149 = .ok (.aload_n 0, 1) := by decide +kernel
theorem dL_law_3150 : decode cL_law 3150 = .ok (.iload 4, 2) := by decide +kernel
theorem dL_law_3152 : decode cL_law 3152 = .ok (.iconst 1, 1) := by decide +kernel
theorem dL_law_3153 : decode cL_law 3153 = .ok (.iadd, 1) := by decide +kernel
theorem dL_law_3154 : decode cL_law 3154 = .ok (.iaload, 1) := by decide +kernel
theorem dL_law_3155 : decode cL_law 3155 = .ok (.invokevirtual 329, 3) := by decide +kernel
theorem dL_law_3158 : decode cL_law 3158 = .ok (.istore 6, 2) := by decide +kernel
theorem dL_law_3160 : decode cL_law 3160 = .ok (.aload_n 2, 1) := by decide +kernel
theorem dL_law_3161 : decode cL_law 3161 = .ok (.invokevirtual 184, 3) := by decide +kernel
theorem dL_law_3164 : decode cL_law 3164 = .ok (.iload 5, 2) := by decide +kernel
theorem dL_law_3166 : decode cL_law 3166 = .ok (.if_icmp .eq 5, 3) := by decide +kernel
theorem dL_law_3169 : decode cL_law 3169 = .ok (.iconst 0, 1) := by decide +kernel
theorem dL_law_3170 : decode cL_law 3170 = .ok (.ireturn, 1) := by decide +kernel
theorem dL_law_3171 : decode cL_law 3171 = .ok (.iload 5, 2) := by decide +kernel
theorem dL_law_3173 : decode cL_law 3173 = .ok (.ifCond .ne 15, 3) := by decide +kernel
theorem dL_law_3176 : decode cL_law 3176 = .ok (.aload_n 3, 1) := by decide +kernel
theorem dL_law_3177 : decode cL_law 3177 = .ok (.iconst 0, 1) := by decide +kernel
theorem dL_law_3178 : decode cL_law 3178 = .ok (.laload, 1) := by decide +kernel
theorem dL_law_3179 : decode cL_law 3179 = .ok (.iload 6, 2) := by decide +kernel
theorem dL_law_3181 : decode cL_law 3181 = .ok (.i2l, 1) := by decide +kernel
theorem dL_law_3182 : decode cL_law 3182 = .ok (.lcmp, 1) := by decide +kernel
theorem dL_law_3183 : decode cL_law 3183 = .ok (.ifCond .eq 5, 3) := by decide +kernel
theorem dL_law_3186 : decode cL_law 3186 = .ok (.iconst 0, 1) := by decide +kernel
theorem dL_law_3187 : decode cL_law 3187 = .ok (.ireturn, 1) := by decide +kernel
theorem dL_law_3188 : decode cL_law 3188 = .ok (.goto 370, 3) := by decide +kernel
theorem dL_law_3191 : decode cL_law 3191 = .ok (.aload_n 1, 1) := by decide +kernel
theorem dL_law_3192 : decode cL_law 3192 = .ok (.aload_n 0, 1) := by decide +kernel
theorem dL_law_3193 : decode cL_law 3193 = .ok (.iload 4, 2) := by decide +kernel
theorem dL_law_3195 : decode cL_law 3195 = .ok (.iconst 1, 1) := by decide +kernel
theorem dL_law_3196 : decode cL_law 3196 = .ok (.iadd, 1) := by decide +kernel
theorem dL_law_3197 : decode cL_law 3197 = .ok (.iaload, 1) := by decide +kernel
theorem dL_law_3198 : decode cL_law 3198 = .ok (.aload_n 3, 1) := by decide +kernel
theorem dL_law_3199 : decode cL_law 3199 = .ok (.invokestatic 330, 3) := by decide +kernel
theorem dL_law_3202 : decode cL_law 3202 = .ok (.istore 5, 2) := by decide +kernel
theorem dL_law_3204 : decode cL_law 3204 = .ok (.aload_n 2, 1) := by decide +kernel
theorem dL_law_3205 : decode cL_law 3205 = .ok (.aload_n 0, 1) := by decide +kernel
theorem dL_law_3206 : decode cL_law 3206 = .ok (.iload 4, 2) := by decide +kernel
theorem dL_law_3208 : decode cL_law 3208 = .ok (.iconst 1, 1) := by decide +kernel
theorem dL_law_3209 : decode cL_law 3209 = .ok (.iadd, 1) := by decide +kernel
theorem dL_law_3210 : decode cL_law 3210 = .ok (.iaload, 1) := by decide +kernel
theorem dL_law_3211 : decode cL_law 3211 = .ok (.invokevirtual 332, 3) := by decide +kernel
theorem dL_law_3214 : decode cL_law 3214 = .ok (.istore 6, 2) := by decide +kernel
theorem dL_law_3216 : decode cL_law 3216 = .ok (.aload_n 2, 1) := by decide +kernel
theorem dL_law_3217 : decode cL_law 3217 = .ok (.invokevirtual 184, 3) := by decide +kernel
theorem dL_law_3220 : decode cL_law 3220 = .ok (.iload 5, 2) := by decide +kernel
theorem dL_law_3222 : decode cL_law 3222 = .ok (.if_icmp .eq 5, 3) := by decide +kernel
theorem dL_law_3225 : decode cL_law 3225 = .ok (.iconst 0, 1) := by decide +kernel
theorem dL_law_3226 : decode cL_law 3226 = .ok (.ireturn, 1) := by decide +kernel
theorem dL_law_3227 : decode cL_law 3227 = .ok (.iload 5, 2) := by decide +kernel
theorem dL_law_3229 : decode cL_law 3229 = .ok (.ifCond .ne 15, 3) := by decide +kernel
theorem dL_law_3232 : decode cL_law 3232 = .ok (.aload_n 3, 1) := by decide +kernel
theorem dL_law_3233 : decode cL_law 3233 = .ok (.iconst 0, 1) := by decide +kernel
theorem dL_law_3234 : decode cL_law 3234 = .ok (.laload, 1) := by decide +kernel
theorem dL_law_3235 : decode cL_law 3235 = .ok (.iload 6, 2) := by decide +kernel
theorem dL_law_3237 : decode cL_law 3237 = .ok (.i2l, 1) := by decide +kernel
theorem dL_law_3238 : decode cL_law 3238 = .ok (.lcmp, 1) := by decide +kernel
theorem dL_law_3239 : decode cL_law 3239 = .ok (.ifCond .eq 5, 3) := by decide +kernel
theorem dL_law_3242 : decode cL_law 3242 = .ok (.iconst 0, 1) := by decide +kernel
theorem dL_law_3243 : decode cL_law 3243 = .ok (.ireturn, 1) := by decide +kernel
theorem dL_law_3244 : decode cL_law 3244 = .ok (.goto 314, 3) := by decide +kernel
theorem dL_law_3247 : decode cL_law 3247 = .ok (.aload_n 1, 1) := by decide +kernel
theorem dL_law_3248 : decode cL_law 3248 = .ok (.aload_n 0, 1) := by decide +kernel
theorem dL_law_3249 : decode cL_law 3249 = .ok (.iload 4, 2) := by decide +kernel
theorem dL_law_3251 : decode cL_law 3251 = .ok (.iconst 1, 1) := by decide +kernel
theorem dL_law_3252 : decode cL_law 3252 = .ok (.iadd, 1) := by decide +kernel
theorem dL_law_3253 : decode cL_law 3253 = .ok (.iaload, 1) := by decide +kernel
theorem dL_law_3254 : decode cL_law 3254 = .ok (.aload_n 3, 1) := by decide +kernel
theorem dL_law_3255 : decode cL_law 3255 = .ok (.invokestatic 333, 3) := by decide +kernel
theorem dL_law_3258 : decode cL_law 3258 = .ok (.istore 5, 2) := by decide +kernel
theorem dL_law_3260 : decode cL_law 3260 = .ok (.aload_n 2, 1) := by decide +kernel
theorem dL_law_3261 : decode cL_law 3261 = .ok (.aload_n 0, 1) := by decide +kernel
theorem dL_law_3262 : decode cL_law 3262 = .ok (.iload 4, 2) := by decide +kernel
theorem dL_law_3264 : decode cL_law 3264 = .ok (.iconst 1, 1) := by decide +kernel
theorem dL_law_3265 : decode cL_law 3265 = .ok (.iadd, 1) := by decide +kernel
theorem dL_law_3266 : decode cL_law 3266 = .ok (.iaload, 1) := by decide +kernel
theorem dL_law_3267 : decode cL_law 3267 = .ok (.invokevirtual 335, 3) := by decide +kernel
theorem dL_law_3270 : decode cL_law 3270 = .ok (.istore 6, 2) := by decide +kernel
theorem dL_law_3272 : decode cL_law 3272 = .ok (.aload_n 2, 1) := by decide +kernel
theorem dL_law_3273 : decode cL_law 3273 = .ok (.invokevirtual 184, 3) := by decide +kernel
theorem dL_law_3276 : decode cL_law 3276 = .ok (.iload 5, 2) := by decide +kernel
theorem dL_law_3278 : decode cL_law 3278 = .ok (.if_icmp .eq 5, 3) := by decide +kernel
theorem dL_law_3281 : decode cL_law 3281 = .ok (.iconst 0, 1) := by decide +kernel
theorem dL_law_3282 : decode cL_law 3282 = .ok (.ireturn, 1) := by decide +kernel
theorem dL_law_3283 : decode cL_law 3283 = .ok (.iload 5, 2) := by decide +kernel
theorem dL_law_3285 : decode cL_law 3285 = .ok (.ifCond .ne 15, 3) := by decide +kernel
theorem dL_law_3288 : decode cL_law 3288 = .ok (.aload_n 3, 1) := by decide +kernel
theorem dL_law_3289 : decode cL_law 3289 = .ok (.iconst 0, 1) := by decide +kernel
theorem dL_law_3290 : decode cL_law 3290 = .ok (.laload, 1) := by decide +kernel
theorem dL_law_3291 : decode cL_law 3291 = .ok (.iload 6, 2) := by decide +kernel
theorem dL_law_3293 : decode cL_law 3293 = .ok (.i2l, 1) := by decide +kernel
theorem dL_law_3294 : decode cL_law 3294 = .ok (.lcmp, 1) := by decide +kernel
theorem dL_law_3295 : decode cL_law 3295 = .ok (.ifCond .eq 5, 3) := by decide +kernel
theorem dL_law_3298 : decode cL_law 3298 = .ok (.iconst 0, 1) := by decide +kernel
theorem dL_law_3299 : decode cL_law 3299 = .ok (.ireturn, 1) := by decide +kernel
theorem dL_law_3300 : decode cL_law 3300 = .ok (.goto 258, 3) := by decide +kernel
theorem dL_law_3303 : decode cL_law 3303 = .ok (.aload_n 1, 1) := by decide +kernel
theorem dL_law_3304 : decode cL_law 3304 = .ok (.aload_n 0, 1) := by decide +kernel
theorem dL_law_3305 : decode cL_law 3305 = .ok (.iload 4, 2) := by decide +kernel
theorem dL_law_3307 : decode cL_law 3307 = .ok (.iconst 1, 1) := by decide +kernel
theorem dL_law_3308 : decode cL_law 3308 = .ok (.iadd, 1) := by decide +kernel
theorem dL_law_3309 : decode cL_law 3309 = .ok (.iaload, 1) := by decide +kernel
theorem dL_law_3310 : decode cL_law 3310 = .ok (.aload_n 3, 1) := by decide +kernel
theorem dL_law_3311 : decode cL_law 3311 = .ok (.invokestatic 336, 3) := by decide +kernel
theorem dL_law_3314 : decode cL_law 3314 = .ok (.istore 5, 2) := by decide +kernel
theorem dL_law_3316 : decode cL_law 3316 = .ok (.aload_n 2, 1) := by decide +kernel
theorem dL_law_3317 : decode cL_law 3317 = .ok (.aload_n 0, 1) := by decide +kernel
theorem dL_law_3318 : decode cL_law 3318 = .ok (.iload 4, 2) := by decide +kernel
theorem dL_law_3320 : decode cL_law 3320 = .ok (.iconst 1, 1) := by decide +kernel
theorem dL_law_3321 : decode cL_law 3321 = .ok (.iadd, 1) := by decide +kernel
theorem dL_law_3322 : decode cL_law 3322 = .ok (.iaload, 1) := by decide +kernel
theorem dL_law_3323 : decode cL_law 3323 = .ok (.invokevirtual 338, 3) := by decide +kernel
theorem dL_law_3326 : decode cL_law 3326 = .ok (.istore 6, 2) := by decide +kernel
theorem dL_law_3328 : decode cL_law 3328 = .ok (.aload_n 2, 1) := by decide +kernel
theorem dL_law_3329 : decode cL_law 3329 = .ok (.invokevirtual 184, 3) := by decide +kernel
theorem dL_law_3332 : decode cL_law 3332 = .ok (.iload 5, 2) := by decide +kernel
theorem dL_law_3334 : decode cL_law 3334 = .ok (.if_icmp .eq 5, 3) := by decide +kernel
theorem dL_law_3337 : decode cL_law 3337 = .ok (.iconst 0, 1) := by decide +kernel
theorem dL_law_3338 : decode cL_law 3338 = .ok (.ireturn, 1) := by decide +kernel
theorem dL_law_3339 : decode cL_law 3339 = .ok (.iload 5, 2) := by decide +kernel
theorem dL_law_3341 : decode cL_law 3341 = .ok (.ifCond .ne 22, 3) := by decide +kernel
theorem dL_law_3344 : decode cL_law 3344 = .ok (.aload_n 3, 1) := by decide +kernel
theorem dL_law_3345 : decode cL_law 3345 = .ok (.iconst 0, 1) := by decide +kernel
theorem dL_law_3346 : decode cL_law 3346 = .ok (.laload, 1) := by decide +kernel
theorem dL_law_3347 : decode cL_law 3347 = .ok (.iload 6, 2) := by decide +kernel
theorem dL_law_3349 : decode cL_law 3349 = .ok (.ifCond .eq 7, 3) := by decide +kernel
theorem dL_law_3352 : decode cL_law 3352 = .ok (.lconst 1, 1) := by decide +kernel
theorem dL_law_3353 : decode cL_law 3353 = .ok (.goto 4, 3) := by decide +kernel
theorem dL_law_3356 : decode cL_law 3356 = .ok (.lconst 0, 1) := by decide +kernel
theorem dL_law_3357 : decode cL_law 3357 = .ok (.lcmp, 1) := by decide +kernel
theorem dL_law_3358 : decode cL_law 3358 = .ok (.ifCond .eq 5, 3) := by decide +kernel
theorem dL_law_3361 : decode cL_law 3361 = .ok (.iconst 0, 1) := by decide +kernel
theorem dL_law_3362 : decode cL_law 3362 = .ok (.ireturn, 1) := by decide +kernel
theorem dL_law_3363 : decode cL_law 3363 = .ok (.goto 195, 3) := by decide +kernel
theorem dL_law_3366 : decode cL_law 3366 = .ok (.aload_n 1, 1) := by decide +kernel
theorem dL_law_3367 : decode cL_law 3367 = .ok (.aload_n 0, 1) := by decide +kernel
theorem dL_law_3368 : decode cL_law 3368 = .ok (.iload 4, 2) := by decide +kernel
theorem dL_law_3370 : decode cL_law 3370 = .ok (.iconst 1, 1) := by decide +kernel
theorem dL_law_3371 : decode cL_law 3371 = .ok (.iadd, 1) := by decide +kernel
theorem dL_law_3372 : decode cL_law 3372 = .ok (.iaload, 1) := by decide +kernel
theorem dL_law_3373 : decode cL_law 3373 = .ok (.aload_n 0, 1) := by decide +kernel
theorem dL_law_3374 : decode cL_law 3374 = .ok (.iload 4, 2) := by decide +kernel
theorem dL_law_3376 : decode cL_law 3376 = .ok (.iconst 2, 1) := by decide +kernel
theorem dL_law_3377 : decode cL_law 3377 = .ok (.iadd, 1) := by decide +kernel
theorem dL_law_3378 : decode cL_law 3378 = .ok (.iaload, 1) := by decide +kernel
theorem dL_law_3379 : decode cL_law 3379 = .ok (.aload_n 3, 1) := by decide +kernel
theorem dL_law_3380 : decode cL_law 3380 = .ok (.invokestatic 339, 3) := by decide +kernel
theorem dL_law_3383 : decode cL_law 3383 = .ok (.istore 5, 2) := by decide +kernel
theorem dL_law_3385 : decode cL_law 3385 = .ok (.aload_n 2, 1) := by decide +kernel
theorem dL_law_3386 : decode cL_law 3386 = .ok (.aload_n 0, 1) := by decide +kernel
theorem dL_law_3387 : decode cL_law 3387 = .ok (.iload 4, 2) := by decide +kernel
theorem dL_law_3389 : decode cL_law 3389 = .ok (.iconst 1, 1) := by decide +kernel
theorem dL_law_3390 : decode cL_law 3390 = .ok (.iadd, 1) := by decide +kernel
theorem dL_law_3391 : decode cL_law 3391 = .ok (.iaload, 1) := by decide +kernel
theorem dL_law_3392 : decode cL_law 3392 = .ok (.aload_n 0, 1) := by decide +kernel
theorem dL_law_3393 : decode cL_law 3393 = .ok (.iload 4, 2) := by decide +kernel
theorem dL_law_3395 : decode cL_law 3395 = .ok (.iconst 2, 1) := by decide +kernel
theorem dL_law_3396 : decode cL_law 3396 = .ok (.iadd, 1) := by decide +kernel
theorem dL_law_3397 : decode cL_law 3397 = .ok (.iaload, 1) := by decide +kernel
theorem dL_law_3398 : decode cL_law 3398 = .ok (.invokevirtual 341, 3) := by decide +kernel
theorem dL_law_3401 : decode cL_law 3401 = .ok (.istore 6, 2) := by decide +kernel
theorem dL_law_3403 : decode cL_law 3403 = .ok (.aload_n 2, 1) := by decide +kernel
theorem dL_law_3404 : decode cL_law 3404 = .ok (.invokevirtual 184, 3) := by decide +kernel
theorem dL_law_3407 : decode cL_law 3407 = .ok (.iload 5, 2) := by decide +kernel
theorem dL_law_3409 : decode cL_law 3409 = .ok (.if_icmp .eq 5, 3) := by decide +kernel
theorem dL_law_3412 : decode cL_law 3412 = .ok (.iconst 0, 1) := by decide +kernel
theorem dL_law_3413 : decode cL_law 3413 = .ok (.ireturn, 1) := by decide +kernel
theorem dL_law_3414 : decode cL_law 3414 = .ok (.iload 5, 2) := by decide +kernel
theorem dL_law_3416 : decode cL_law 3416 = .ok (.ifCond .ne 15, 3) := by decide +kernel
theorem dL_law_3419 : decode cL_law 3419 = .ok (.aload_n 3, 1) := by decide +kernel
theorem dL_law_3420 : decode cL_law 3420 = .ok (.iconst 0, 1) := by decide +kernel
theorem dL_law_3421 : decode cL_law 3421 = .ok (.laload, 1) := by decide +kernel
theorem dL_law_3422 : decode cL_law 3422 = .ok (.iload 6, 2) := by decide +kernel
theorem dL_law_3424 : decode cL_law 3424 = .ok (.i2l, 1) := by decide +kernel
theorem dL_law_3425 : decode cL_law 3425 = .ok (.lcmp, 1) := by decide +kernel
theorem dL_law_3426 : decode cL_law 3426 = .ok (.ifCond .eq 5, 3) := by decide +kernel
theorem dL_law_3429 : decode cL_law 3429 = .ok (.iconst 0, 1) := by decide +kernel
theorem dL_law_3430 : decode cL_law 3430 = .ok (.ireturn, 1) := by decide +kernel
theorem dL_law_3431 : decode cL_law 3431 = .ok (.goto 127, 3) := by decide +kernel
theorem dL_law_3434 : decode cL_law 3434 = .ok (.aload_n 1, 1) := by decide +kernel
theorem dL_law_3435 : decode cL_law 3435 = .ok (.aload_n 0, 1) := by decide +kernel
theorem dL_law_3436 : decode cL_law 3436 = .ok (.iload 4, 2) := by decide +kernel
theorem dL_law_3438 : decode cL_law 3438 = .ok (.iconst 1, 1) := by decide +kernel
theorem dL_law_3439 : decode cL_law 3439 = .ok (.iadd, 1) := by decide +kernel
theorem dL_law_3440 : decode cL_law 3440 = .ok (.iaload, 1) := by decide +kernel
theorem dL_law_3441 : decode cL_law 3441 = .ok (.aload_n 0, 1) := by decide +kernel
theorem dL_law_3442 : decode cL_law 3442 = .ok (.iload 4, 2) := by decide +kernel
theorem dL_law_3444 : decode cL_law 3444 = .ok (.iconst 2, 1) := by decide +kernel
theorem dL_law_3445 : decode cL_law 3445 = .ok (.iadd, 1) := by decide +kernel
theorem dL_law_3446 : decode cL_law 3446 = .ok (.iaload, 1) := by decide +kernel
theorem dL_law_3447 : decode cL_law 3447 = .ok (.aload_n 3, 1) := by decide +kernel
theorem dL_law_3448 : decode cL_law 3448 = .ok (.invokestatic 342, 3) := by decide +kernel
theorem dL_law_3451 : decode cL_law 3451 = .ok (.istore 5, 2) := by decide +kernel
theorem dL_law_3453 : decode cL_law 3453 = .ok (.aload_n 2, 1) := by decide +kernel
theorem dL_law_3454 : decode cL_law 3454 = .ok (.aload_n 0, 1) := by decide +kernel
theorem dL_law_3455 : decode cL_law 3455 = .ok (.iload 4, 2) := by decide +kernel
theorem dL_law_3457 : decode cL_law 3457 = .ok (.iconst 1, 1) := by decide +kernel
theorem dL_law_3458 : decode cL_law 3458 = .ok (.iadd, 1) := by decide +kernel
theorem dL_law_3459 : decode cL_law 3459 = .ok (.iaload, 1) := by decide +kernel
theorem dL_law_3460 : decode cL_law 3460 = .ok (.aload_n 0, 1) := by decide +kernel
theorem dL_law_3461 : decode cL_law 3461 = .ok (.iload 4, 2) := by decide +kernel
theorem dL_law_3463 : decode cL_law 3463 = .ok (.iconst 2, 1) := by decide +kernel
theorem dL_law_3464 : decode cL_law 3464 = .ok (.iadd, 1) := by decide +kernel
theorem dL_law_3465 : decode cL_law 3465 = .ok (.iaload, 1) := by decide +kernel
theorem dL_law_3466 : decode cL_law 3466 = .ok (.invokevirtual 344, 3) := by decide +kernel
theorem dL_law_3469 : decode cL_law 3469 = .ok (.istore 6, 2) := by decide +kernel
theorem dL_law_3471 : decode cL_law 3471 = .ok (.aload_n 2, 1) := by decide +kernel
theorem dL_law_3472 : decode cL_law 3472 = .ok (.invokevirtual 184, 3) := by decide +kernel
theorem dL_law_3475 : decode cL_law 3475 = .ok (.iload 5, 2) := by decide +kernel
theorem dL_law_3477 : decode cL_law 3477 = .ok (.if_icmp .eq 5, 3) := by decide +kernel
theorem dL_law_3480 : decode cL_law 3480 = .ok (.iconst 0, 1) := by decide +kernel
theorem dL_law_3481 : decode cL_law 3481 = .ok (.ireturn, 1) := by decide +kernel
theorem dL_law_3482 : decode cL_law 3482 = .ok (.iload 5, 2) := by decide +kernel
theorem dL_law_3484 : decode cL_law 3484 = .ok (.ifCond .ne 15, 3) := by decide +kernel
theorem dL_law_3487 : decode cL_law 3487 = .ok (.aload_n 3, 1) := by decide +kernel
theorem dL_law_3488 : decode cL_law 3488 = .ok (.iconst 0, 1) := by decide +kernel
theorem dL_law_3489 : decode cL_law 3489 = .ok (.laload, 1) := by decide +kernel
theorem dL_law_3490 : decode cL_law 3490 = .ok (.iload 6, 2) := by decide +kernel
theorem dL_law_3492 : decode cL_law 3492 = .ok (.i2l, 1) := by decide +kernel
theorem dL_law_3493 : decode cL_law 3493 = .ok (.lcmp, 1) := by decide +kernel
theorem dL_law_3494 : decode cL_law 3494 = .ok (.ifCond .eq 5, 3) := by decide +kernel
theorem dL_law_3497 : decode cL_law 3497 = .ok (.iconst 0, 1) := by decide +kernel
theorem dL_law_3498 : decode cL_law 3498 = .ok (.ireturn, 1) := by decide +kernel
theorem dL_law_3499 : decode cL_law 3499 = .ok (.goto 59, 3) := by decide +kernel
theorem dL_law_3502 : decode cL_law 3502 = .ok (.aload_n 1, 1) := by decide +kernel
theorem dL_law_3503 : decode cL_law 3503 = .ok (.aload_n 0, 1) := by decide +kernel
theorem dL_law_3504 : decode cL_law 3504 = .ok (.iload 4, 2) := by decide +kernel
theorem dL_law_3506 : decode cL_law 3506 = .ok (.iconst 1, 1) := by decide +kernel
theorem dL_law_3507 : decode cL_law 3507 = .ok (.iadd, 1) := by decide +kernel
theorem dL_law_3508 : decode cL_law 3508 = .ok (.iaload, 1) := by decide +kernel
theorem dL_law_3509 : decode cL_law 3509 = .ok (.aload_n 3, 1) := by decide +kernel
theorem dL_law_3510 : decode cL_law 3510 = .ok (.invokestatic 345, 3) := by decide +kernel
theorem dL_law_3513 : decode cL_law 3513 = .ok (.istore 5, 2) := by decide +kernel
theorem dL_law_3515 : decode cL_law 3515 = .ok (.aload_n 2, 1) := by decide +kernel
theorem dL_law_3516 : decode cL_law 3516 = .ok (.aload_n 0, 1) := by decide +kernel
theorem dL_law_3517 : decode cL_law 3517 = .ok (.iload 4, 2) := by decide +kernel
theorem dL_law_3519 : decode cL_law 3519 = .ok (.iconst 1, 1) := by decide +kernel
theorem dL_law_3520 : decode cL_law 3520 = .ok (.iadd, 1) := by decide +kernel
theorem dL_law_3521 : decode cL_law 3521 = .ok (.iaload, 1) := by decide +kernel
theorem dL_law_3522 : decode cL_law 3522 = .ok (.invokevirtual 347, 3) := by decide +kernel
theorem dL_law_3525 : decode cL_law 3525 = .ok (.istore 6, 2) := by decide +kernel
theorem dL_law_3527 : decode cL_law 3527 = .ok (.aload_n 2, 1) := by decide +kernel
theorem dL_law_3528 : decode cL_law 3528 = .ok (.invokevirtual 184, 3) := by decide +kernel
theorem dL_law_3531 : decode cL_law 3531 = .ok (.iload 5, 2) := by decide +kernel
theorem dL_law_3533 : decode cL_law 3533 = .ok (.if_icmp .eq 5, 3) := by decide +kernel
theorem dL_law_3536 : decode cL_law 3536 = .ok (.iconst 0, 1) := by decide +kernel
theorem dL_law_3537 : decode cL_law 3537 = .ok (.ireturn, 1) := by decide +kernel
theorem dL_law_3538 : decode cL_law 3538 = .ok (.iload 5, 2) := by decide +kernel
theorem dL_law_3540 : decode cL_law 3540 = .ok (.ifCond .ne 15, 3) := by decide +kernel
theorem dL_law_3543 : decode cL_law 3543 = .ok (.aload_n 3, 1) := by decide +kernel
theorem dL_law_3544 : decode cL_law 3544 = .ok (.iconst 0, 1) := by decide +kernel
theorem dL_law_3545 : decode cL_law 3545 = .ok (.laload, 1) := by decide +kernel
theorem dL_law_3546 : decode cL_law 3546 = .ok (.iload 6, 2) := by decide +kernel
theorem dL_law_3548 : decode cL_law 3548 = .ok (.i2l, 1) := by decide +kernel
theorem dL_law_3549 : decode cL_law 3549 = .ok (.lcmp, 1) := by decide +kernel
theorem dL_law_3550 : decode cL_law 3550 = .ok (.ifCond .eq 5, 3) := by decide +kernel
theorem dL_law_3553 : decode cL_law 3553 = .ok (.iconst 0, 1) := by decide +kernel
theorem dL_law_3554 : decode cL_law 3554 = .ok (.ireturn, 1) := by decide +kernel
theorem dL_law_3555 : decode cL_law 3555 = .ok (.goto 3, 3) := by decide +kernel
theorem dL_law_3558 : decode cL_law 3558 = .ok (.iinc 4 5, 3) := by decide +kernel
theorem dL_law_3561 : decode cL_law 3561 = .ok (.goto (-3538), 3) := by decide +kernel
theorem dL_law_3564 : decode cL_law 3564 = .ok (.iconst 1, 1) := by decide +kernel
theorem dL_law_3565 : decode cL_law 3565 = .ok (.ireturn, 1) := by decide +kernel
