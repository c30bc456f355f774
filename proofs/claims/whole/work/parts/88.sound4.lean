/-! ===== every row of the code tables is as the class file has it, and its links are words of the tables (written by wip/whole/gen/gensound4.py) ===== -/
def hI : List (Nat × Nat) := [(7, 1022), (9, 1024), (3, 1027), (9, 1030), (11, 1032), (3, 1035), (9, 1036), (11, 1038), (3, 1041), (9, 1042), (15, 1045), (21, 1046), (24, 1047), (28, 1048), (20, 1059), (22, 1061), (3, 1064), (9, 1065), (153, 1066), (15, 1067), (156, 1068), (18, 1069), (126, 1070), (107, 1071), (21, 1072), (25, 1073), (28, 1074), (31, 1075), (34, 1076), (37, 1077), (40, 1078), (27, 1100), (14, 1102), (47, 1103), (23, 1104), (77, 1105), (103, 1106), (58, 1107), (117, 1108), (52, 1109), (40, 1110), (85, 1111), (29, 1112), (33, 1113), (37, 1114), (82, 1115), (68, 1116), (147, 1117), (54, 1118), (120, 1119), (107, 1120), (118, 1121), (150, 1122), (124, 1123), (84, 1124), (159, 1125), (162, 1126), (127, 1127), (165, 1128), (130, 1129), (40, 1130), (207, 1131), (43, 1132), (220, 1133), (46, 1134), (229, 1135), (49, 1136), (21, 1172), (23, 1173), (30, 1174), (32, 1176), (3, 1179), (9, 1180), (15, 1181), (19, 1182), (22, 1183), (25, 1184), (79, 1185), (28, 1186), (31, 1187), (115, 1188), (112, 1189), (12, 1211), (18, 1212), (26, 1213), (35, 1214), (39, 1215), (13, 1227), (43, 1231), (50, 1234), (54, 1238), (18, 2002), (62, 2006), (64, 2007), (65, 2008), (31, 2012), (34, 2015), (69, 2019), (43, 2023), (55, 2027), (75, 2031), (81, 2036), (335, 2040), (38, 2044), (86, 2046), (492, 2050), (495, 2054), (9, 2057), (1053, 2060), (1059, 2062), (498, 2065), (67, 2068), (48, 2071), (414, 2074), (71, 2075), (44, 2078), (59, 2080), (63, 2082), (61, 2084), (47, 2085), (51, 2089), (58, 2093), (67, 2097), (90, 2101), (97, 2105), (102, 2110), (108, 2114), (633, 2118), (505, 2122), (637, 2123), (88, 2126), (92, 2129), (38, 2130), (95, 2131), (640, 2134), (224, 2137), (183, 2138), (227, 2139), (228, 2140), (96, 2143), (241, 2146), (1062, 2149), (244, 2152), (232, 2155), (164, 2158), (157, 2161), (110, 2164), (161, 2165), (76, 2168), (94, 2170), (71, 2177), (73, 2181), (23, 2186), (81, 2190), (88, 2193), (263, 2197), (275, 2199), (3, 2202), (1, 2205), (7, 2206), (100, 2207), (81, 2208), (13, 2209), (31, 2210), (71, 2212), (16, 2213), (9, 2214), (11, 2216), (33, 2218), (105, 2220), (74, 2221), (19, 2222), (11, 2223), (9, 2225), (17, 2227), (17, 2229), (15, 2231), (21, 2233), (265, 3004), (278, 3006), (1, 3009), (267, 3015), (279, 3017), (3, 3020), (269, 3026), (280, 3028), (1, 3031), (271, 3037), (281, 3039), (1, 3042), (273, 3048), (282, 3050), (3, 3053), (101, 3059), (283, 3061), (92, 3067), (28, 3071), (96, 3075), (108, 3079), (112, 3084), (115, 3088), (33, 3091), (119, 3095), (123, 3096), (60, 3100), (64, 3101), (77, 3105), (7, 3119), (9, 3124), (129, 3126), (133, 3142), (87, 3146), (115, 3150), (119, 3154), (137, 3158), (91, 3162), (95, 3163), (7, 3176), (11, 3180), (7, 3187), (13, 3191), (98, 3193), (37, 3194), (140, 3198), (41, 3202), (143, 3206), (45, 3210), (50, 3214), (54, 3218), (168, 3222), (189, 3226), (58, 3227), (171, 3231), (62, 3232), (176, 3236), (34, 4000), (46, 4003), (50, 4004), (57, 4005), (61, 4006), (71, 4008), (179, 4009), (254, 4012), (260, 4013), (182, 4014), (75, 4018), (185, 4022), (188, 4023), (66, 4024), (70, 4028), (192, 4032), (85, 4036), (248, 4043), (96, 4047), (195, 4048), (74, 4052), (78, 4056), (198, 4060), (257, 4067), (82, 4070), (201, 4074), (121, 4078), (125, 4082), (204, 4083), (86, 4087), (90, 4091), (210, 4095), (103, 4099), (110, 4103), (94, 4104), (98, 4108), (214, 4112), (216, 4113), (103, 4116), (108, 4120), (112, 4124), (223, 4128), (226, 4129), (116, 4130), (120, 4134), (124, 4138), (232, 4142), (15, 4150), (21, 4151), (21, 4157), (27, 4158), (29, 4163), (235, 4164), (17, 4173), (23, 4174), (23, 4180), (29, 4181), (35, 4185), (238, 4186), (19, 4193), (25, 4194), (27, 4200), (33, 4201), (36, 4204), (38, 4211), (128, 4212), (132, 4216), (241, 4220), (136, 4223), (245, 4227), (113, 4231), (140, 4237), (144, 5001), (10, 5005), (12, 5007), (3, 5010), (9, 5011), (15, 5012), (18, 5013), (262, 5014), (53, 5015), (83, 5016), (56, 5017), (59, 5018), (62, 5019), (86, 5020), (21, 5021), (24, 5022), (194, 5023), (185, 5024), (28, 5025), (31, 5026), (208, 5027), (34, 5028), (226, 5029), (235, 5030), (232, 5031), (247, 5032), (17, 5081), (41, 5085), (22, 5088), (136, 5092), (66, 5096), (126, 5101), (112, 5105), (70, 5109), (75, 5110), (79, 5111), (106, 5115), (133, 5121), (118, 5126), (95, 5130), (109, 5134), (89, 5138), (92, 5142), (100, 5147), (27, 5153), (145, 5157), (32, 5160), (149, 5164), (36, 5168), (152, 5172), (153, 5173), (49, 5177), (139, 5181), (156, 5185), (142, 5189), (160, 5193), (40, 5197), (163, 5201), (44, 5205), (49, 5209), (53, 5213), (57, 5217), (166, 5221), (169, 5225), (172, 5229), (61, 5233), (65, 5237), (178, 6001), (175, 6005), (181, 6008), (69, 6009), (73, 6013), (197, 6017), (182, 6021), (188, 6025), (191, 6028), (77, 6032), (81, 6036), (204, 6040), (200, 6044), (45, 6047), (203, 6050), (85, 6051), (211, 6055), (89, 6059), (93, 6063), (215, 6067), (97, 6071), (102, 6075), (218, 6079), (220, 6080), (222, 6081), (107, 6084), (111, 6088), (115, 6092), (119, 6096), (123, 6100), (127, 6104), (244, 6108), (238, 6112), (229, 6115), (241, 6119), (253, 6123), (250, 6127), (259, 6131), (256, 6135), (131, 6139), (135, 6143), (139, 6147), (143, 6151), (147, 6155), (9, 6173), (15, 6174)]
def tblO : List (Nat × Nat) := [(6, 1000), (6, 1001), (6, 1002), (6, 1003), (6, 1004), (6, 1005), (6, 1006), (6, 1007), (6, 1008), (6, 1009), (6, 1010), (6, 1011), (6, 1012), (6, 1013), (6, 1014), (6, 1015), (6, 1016), (6, 1017), (6, 1018), (6, 1019), (6, 1020), (6, 1021), (5, 1023), (9, 1028), (8, 1029), (5, 1031), (5, 1037), (10, 1043), (8, 1044), (4, 1057), (1, 1058), (5, 1060), (4, 1099), (4, 1171), (5, 1175), (4, 1210), (4, 1226), (10, 2013), (8, 2014), (10, 2066), (8, 2067), (10, 2069), (8, 2070), (10, 2072), (8, 2073), (10, 2076), (8, 2077), (10, 2135), (8, 2136), (10, 2141), (8, 2142), (10, 2144), (8, 2145), (10, 2147), (8, 2148), (10, 2150), (8, 2151), (10, 2153), (8, 2154), (10, 2156), (8, 2157), (10, 2159), (8, 2160), (10, 2162), (8, 2163), (10, 2166), (8, 2167), (1, 2185), (5, 2198), (2, 2211), (2, 2215), (2, 2217), (2, 2219), (2, 2224), (2, 2226), (2, 2228), (2, 2230), (2, 2232), (2, 2234), (4, 3003), (5, 3005), (4, 3014), (5, 3016), (4, 3025), (5, 3027), (4, 3036), (5, 3038), (4, 3047), (5, 3049), (4, 3058), (5, 3060), (4, 3066), (3, 3108), (7, 3109), (7, 3112), (7, 3115), (7, 3116), (7, 3120), (7, 3121), (3, 3129), (7, 3130), (7, 3131), (7, 3132), (7, 3133), (7, 3134), (7, 3137), (3, 3166), (7, 3167), (7, 3170), (7, 3173), (7, 3177), (7, 3184), (7, 3188), (10, 4044), (11, 4045), (10, 4068), (8, 4069), (3, 4145), (7, 4146), (7, 4147), (7, 4152), (7, 4153), (7, 4154), (3, 4159), (7, 4161), (3, 4167), (7, 4168), (7, 4169), (7, 4170), (7, 4175), (7, 4176), (7, 4177), (3, 4182), (3, 4189), (7, 4190), (7, 4195), (7, 4196), (7, 4197), (3, 4202), (3, 4205), (7, 4207), (7, 4208), (7, 4209), (5, 5006), (4, 5079), (1, 5080), (3, 6159), (3, 6160), (3, 6161), (3, 6162), (3, 6163)]
def hY : List (List Nat) := [[5010, 1008, 5009, 0, 0], [5088, 1008, 0, 5087, 0], [6050, 1008, 0, 6049, 0], [5160, 1008, 0, 5159, 0], [6047, 1008, 0, 6046, 0], [5168, 1008, 5167, 0, 31], [5177, 1008, 5176, 0, 32], [6025, 1008, 6024, 0, 44], [6032, 1008, 6031, 0, 45], [5085, 1008, 5083, 0, 5084], [5100, 1008, 5099, 0, 19], [5115, 1008, 5114, 0, 22], [5109, 1008, 5108, 0, 21], [5119, 1008, 5118, 0, 23], [5151, 1008, 5150, 0, 30], [5146, 1008, 5145, 0, 29], [5142, 1008, 5141, 0, 28], [5138, 1008, 5137, 0, 27], [5134, 1008, 5133, 0, 26], [5130, 1008, 5129, 0, 25], [5105, 1008, 5104, 0, 20], [5125, 1008, 5124, 0, 24], [5096, 1008, 5095, 0, 18], [5092, 1008, 5090, 0, 5091], [5181, 1008, 5180, 0, 33], [5225, 1008, 5224, 0, 39], [5185, 1008, 5184, 0, 34], [5189, 1008, 5188, 0, 35], [5193, 1008, 5192, 0, 36], [5197, 1008, 5196, 0, 37], [5157, 1008, 5155, 0, 5156], [5164, 1008, 5162, 0, 5163], [5172, 1008, 5170, 0, 5171], [5205, 1008, 5204, 0, 38], [5201, 1008, 5199, 0, 5200], [5209, 1008, 5207, 0, 5208], [5213, 1008, 5211, 0, 5212], [5217, 1008, 5215, 0, 5216], [5229, 1008, 5228, 0, 40], [5233, 1008, 5232, 0, 41], [5221, 1008, 5219, 0, 5220], [5237, 1008, 5235, 0, 5236], [6008, 1008, 0, 6007, 0], [6005, 1008, 6004, 0, 42], [6001, 1008, 5239, 0, 5240], [6013, 1008, 6011, 0, 6012], [6028, 1008, 0, 6027, 0], [6021, 1008, 6020, 0, 43], [6017, 1008, 6015, 0, 6016], [6036, 1008, 6034, 0, 6035], [6044, 1008, 6043, 0, 46], [6040, 1008, 6038, 0, 6039], [6059, 1008, 6058, 0, 47], [6055, 1008, 6053, 0, 6054], [6063, 1008, 6061, 0, 6062], [6071, 1008, 6070, 0, 48], [6067, 1008, 6065, 0, 6066], [6075, 1008, 6073, 0, 6074], [6084, 1008, 0, 6083, 0], [6079, 1008, 6077, 0, 6078], [6088, 1008, 6086, 0, 6087], [6092, 1008, 6090, 0, 6091], [6096, 1008, 6094, 0, 6095], [6100, 1008, 6098, 0, 6099], [6104, 1008, 6102, 0, 6103], [6119, 1008, 6118, 0, 50], [6115, 1008, 0, 6114, 0], [6123, 1008, 6122, 0, 51], [6112, 1008, 6111, 0, 49], [6131, 1008, 6130, 0, 53], [6127, 1008, 6126, 0, 52], [6139, 1008, 6138, 0, 55], [6135, 1008, 6134, 0, 54], [6108, 1008, 6106, 0, 6107], [6143, 1008, 6141, 0, 6142], [6147, 1008, 6145, 0, 6146], [6151, 1008, 6149, 0, 6150], [6155, 1008, 6153, 0, 6154], [6159, 1008, 6157, 0, 6158], [1041, 1004, 1040, 0, 0], [4103, 1004, 4101, 0, 4102], [1238, 1004, 1236, 0, 1237], [2185, 1004, 2183, 0, 2184], [2002, 1004, 1240, 0, 2001], [2019, 1004, 2017, 0, 2018], [2012, 1004, 2010, 0, 2011], [4235, 1004, 4233, 0, 4234], [2205, 1014, 2204, 0, 0], [3126, 1014, 3107, 0, 3108], [3139, 1014, 3128, 0, 3129], [3193, 1014, 3165, 0, 3166], [4163, 1014, 4144, 0, 4145], [4185, 1014, 4166, 0, 4167], [4211, 1014, 4188, 0, 4189], [3020, 1017, 3019, 0, 0], [3112, 1017, 3111, 0, 0], [3170, 1017, 3169, 0, 0], [4193, 1017, 4192, 0, 0], [2202, 1015, 2201, 0, 0], [3115, 1015, 3114, 0, 0], [3173, 1015, 3172, 0, 0], [4150, 1015, 4149, 0, 0], [3009, 1016, 3008, 0, 0], [3176, 1016, 3175, 0, 0], [4173, 1016, 4172, 0, 0], [3031, 1018, 3030, 0, 0], [3119, 1018, 3118, 0, 0], [3180, 1018, 3179, 0, 0], [4200, 1018, 4199, 0, 0], [3042, 1019, 3041, 0, 0], [3137, 1019, 3136, 0, 0], [3187, 1019, 3186, 0, 0], [4157, 1019, 4156, 0, 0], [3053, 1020, 3052, 0, 0], [3124, 1020, 3123, 0, 0], [3191, 1020, 3190, 0, 0], [4180, 1020, 4179, 0, 0], [1064, 1006, 1063, 0, 0], [2023, 1006, 2021, 0, 2022], [2027, 1006, 2026, 0, 1], [2031, 1006, 2030, 0, 2], [2035, 1006, 2034, 0, 3], [2097, 1006, 2096, 0, 6], [2101, 1006, 2100, 0, 7], [2105, 1006, 2104, 0, 8], [2109, 1006, 2108, 0, 9], [2114, 1006, 2113, 0, 10], [2089, 1006, 2088, 0, 4], [2093, 1006, 2092, 0, 5], [2174, 1006, 2173, 0, 11], [2181, 1006, 2180, 0, 12], [3150, 1006, 3148, 0, 3149], [3154, 1006, 3153, 0, 14], [3157, 1006, 0, 3156, 0], [1035, 1003, 1034, 0, 0], [3079, 1003, 3077, 0, 3078], [3071, 1003, 3069, 0, 3070], [3083, 1003, 3081, 0, 3082], [3210, 1003, 3208, 0, 3209], [3105, 1003, 3103, 0, 3104], [3202, 1003, 3200, 0, 3201], [3088, 1003, 3086, 0, 3087], [3100, 1003, 3098, 0, 3099], [3146, 1003, 3144, 0, 3145], [3162, 1003, 3160, 0, 3161], [4099, 1003, 4097, 0, 4098], [4231, 1003, 4229, 0, 4230], [1179, 1007, 1178, 0, 0], [3240, 1007, 3238, 0, 3239], [4022, 1007, 4020, 0, 4021], [4018, 1007, 4016, 0, 4017], [4036, 1007, 4034, 0, 4035], [4040, 1007, 4039, 0, 16], [4052, 1007, 4050, 0, 4051], [4064, 1007, 4062, 0, 4063], [4078, 1007, 4076, 0, 4077], [4082, 1007, 4081, 0, 17], [4087, 1007, 4085, 0, 4086], [1027, 1002, 1026, 0, 0], [1231, 1002, 1229, 0, 1230], [2006, 1002, 2004, 0, 2005], [2190, 1002, 2188, 0, 2189], [3075, 1002, 3073, 0, 3074], [3095, 1002, 3093, 0, 3094], [3198, 1002, 3196, 0, 3197], [3206, 1002, 3204, 0, 3205], [3214, 1002, 3212, 0, 3213], [3218, 1002, 3216, 0, 3217], [3222, 1002, 3220, 0, 3221], [3231, 1002, 3229, 0, 3230], [3236, 1002, 3234, 0, 3235], [4028, 1002, 4026, 0, 4027], [4032, 1002, 4030, 0, 4031], [4056, 1002, 4054, 0, 4055], [4060, 1002, 4058, 0, 4059], [4074, 1002, 4072, 0, 4073], [4091, 1002, 4089, 0, 4090], [4095, 1002, 4093, 0, 4094], [4108, 1002, 4106, 0, 4107], [4112, 1002, 4110, 0, 4111], [4120, 1002, 4118, 0, 4119], [4124, 1002, 4122, 0, 4123], [4128, 1002, 4126, 0, 4127], [4134, 1002, 4132, 0, 4133], [4138, 1002, 4136, 0, 4137], [4142, 1002, 4140, 0, 4141], [4216, 1002, 4214, 0, 4215], [4220, 1002, 4218, 0, 4219], [4227, 1002, 4225, 0, 4226], [5001, 1002, 4239, 0, 4240], [5005, 1002, 5003, 0, 5004], [1234, 1002, 0, 1233, 0], [2177, 1002, 0, 2176, 0], [4043, 1002, 0, 4042, 0], [2193, 1002, 0, 2192, 0], [3091, 1002, 0, 3090, 0], [3142, 1002, 0, 3141, 0], [3184, 1002, 0, 3183, 0], [4067, 1002, 0, 4066, 0], [4012, 1002, 0, 4011, 0], [4116, 1002, 0, 4115, 0], [4223, 1002, 0, 4222, 0], [2197, 1002, 2196, 0, 13], [3226, 1002, 3225, 0, 15], [4003, 1021, 0, 4002, 0], [2040, 1009, 2038, 0, 2039], [2050, 1009, 2048, 0, 2049], [2118, 1009, 2116, 0, 2117], [2122, 1009, 2120, 0, 2121], [2044, 1009, 2042, 0, 2043], [2054, 1009, 2052, 0, 2053], [2060, 1009, 0, 2059, 0], [2057, 1010, 0, 2056, 0], [2129, 1010, 0, 2128, 0], [2126, 1010, 0, 2125, 0], [2134, 1010, 0, 2133, 0], [2065, 1011, 0, 2064, 0]]
def chunk (c : Nat) : List Cond := match c with
  | 0 => k2_sels lw_privs
  | 1 => tables_1_1
  | 2 => tables_1_2
  | 3 => tables_1_3
  | 4 => tables_1_4
  | 5 => tables_1_5
  | 6 => tables_1_6
  | _ => []
theorem chunk_in {c : Nat} {w : Cond} (h : w ∈ chunk c) : w ∈ lw_tbl := by
  unfold chunk at h
  split at h
  · exact List.mem_append_left _ h
  · exact List.mem_append_right _ (List.mem_append_left _ h)
  · exact List.mem_append_right _ (List.mem_append_right _ (List.mem_append_left _ h))
  · exact List.mem_append_right _ (List.mem_append_right _ (List.mem_append_right _ (List.mem_append_left _ h)))
  · exact List.mem_append_right _ (List.mem_append_right _ (List.mem_append_right _ (List.mem_append_right _ (List.mem_append_left _ h))))
  · exact List.mem_append_right _ (List.mem_append_right _ (List.mem_append_right _ (List.mem_append_right _ (List.mem_append_right _ (List.mem_append_left _ h)))))
  · exact List.mem_append_right _ (List.mem_append_right _ (List.mem_append_right _ (List.mem_append_right _ (List.mem_append_right _ (List.mem_append_right _ (h))))))
  · cases h
def atW (i : Nat) (w : Cond) : Bool := decide ((chunk (i / 1000))[i % 1000]? = some w) && goodWord w
def wTag (w : Cond) : Nat := match w with
  | .arrayClass _ => 1
  | .sameField _ _ _ _ => 2
  | .sameMethod _ _ _ _ => 3
  | .superclass _ _ => 4
  | .instantiable _ _ => 5
  | .initialized _ => 6
  | .selects _ _ _ => 7
  | .code _ _ _ _ => 8
  | .instanceMethod _ => 9
  | .static _ => 10
  | .native _ => 11
  | _ => 0
def wIn (w : Cond) : Bool := match w with
  | .fieldLink _ i _ _ _ => hI.any fun q => decide (q.1 = i) && atW q.2 w
  | .methodLink _ i _ => hI.any fun q => decide (q.1 = i) && atW q.2 w
  | .classLink _ i _ => hI.any fun q => decide (q.1 = i) && atW q.2 w
  | .constant _ i _ => hI.any fun q => decide (q.1 = i) && atW q.2 w
  | .constantLong _ i _ => hI.any fun q => decide (q.1 = i) && atW q.2 w
  | w => tblO.any fun q => decide (q.1 = wTag w) && atW q.2 w
theorem atW_mem {i : Nat} {w : Cond} (h : atW i w = true) : w ∈ AW := by
  simp only [atW, Bool.and_eq_true, decide_eq_true_eq] at h
  exact List.mem_filter.mpr ⟨chunk_in (List.mem_of_getElem? h.1), h.2⟩
theorem wIn_mem {w : Cond} (h : wIn w = true) : w ∈ AW := by
  unfold wIn at h
  split at h
  all_goals (
    simp only [List.any_eq_true, Bool.and_eq_true] at h
    obtain ⟨q, -, -, h⟩ := h
    exact atW_mem h)
def wordY (k y : Nat) : Cond := match k with
  | 0 => .code (mY y).1 (mY y).2.1 (mY y).2.2.1 (mY y).2.2.2
  | 1 => .initialized (mY y).1.cls
  | 2 => .instanceMethod (mY y).1
  | 3 => .static (mY y).1
  | _ => .selects (mY y).1.cls (mY y).1 (mY y).1
def wYi (k y : Nat) : Nat := (hY.getD y []).getD k 0
def wY (k y : Nat) : Bool := decide (wYi k y ≠ 0)
def wYok (k y : Nat) : Bool := decide (wYi k y = 0) || atW (wYi k y - 1) (wordY k y)
def ownY (y : Nat) : String := (mY y).1.cls
def in32B (n : Int) : Bool := decide (-2147483648 ≤ n) && decide (n ≤ 2147483647)
def in64B (n : Int) : Bool := decide (-9223372036854775808 ≤ n) && decide (n ≤ 9223372036854775807)
def tgtB (pc : Nat) (off : Int) (aux : List Int) : Bool := decide ((pc : Int) + off = ((ia aux : Nat) : Int))
def swT (pc : Int) : Int → List Int → List Int
  | _, [] => []
  | lo, o :: r => lo :: (pc + o) :: swT pc (lo + 1) r
def lkT (pc : Int) : List (Int × Int) → List Int
  | [] => []
  | (v, o) :: r => v :: (pc + o) :: lkT pc r
def fldB (own : String) (i : Nat) (k kind c : Int) : Bool :=
  decide (1 ≤ c) && decide (c ≤ 13) && decide (0 ≤ k) && decide (k.toNat < clN (c.toNat - 1)) && decide (rfF (c.toNat - 1) k.toNat = decide (kind = 1)) && decide (kind = 0 → tyC (c.toNat - 1) k.toNat = .int) && decide (kind = 0 ∨ kind = 1 ∨ kind = 2) &&
  refL.any fun q => decide (q.1 = own) && decide (q.2.1 = i) && wIn (.fieldLink own i q.2.2 ((clCc (c.toNat - 1)).2.1 k.toNat).2.1 ((clCc (c.toNat - 1)).2.1 k.toNat).2.2.1) &&
    (decide (q.2.2 = ((clCc (c.toNat - 1)).2.1 k.toNat).1) || wIn (.sameField q.2.2 ((clCc (c.toNat - 1)).2.1 k.toNat).1 ((clCc (c.toNat - 1)).2.1 k.toNat).2.1 ((clCc (c.toNat - 1)).2.1 k.toNat).2.2.1))
def getB (own : String) (i : Nat) (aux : List Int) : Bool := (decide (a1 aux ≠ 3) || wIn (.fieldLink own i "java/lang/String" "value" "[B")) && (decide (a1 aux ≠ 4) || wIn (.fieldLink own i "java/lang/String" "coder" "B")) && (aux.drop 2).all fun c => decide (c = 500) || fldB own i (a0 aux) (a1 aux) c
def putB (y : Nat) (i : Nat) (aux : List Int) : Bool := (aux.drop 2).all fun c => fldB (ownY y) i (a0 aux) (a1 aux) c && (decide (((clCc (c.toNat - 1)).2.1 (a0 aux).toNat).2.2.2 = false) || (decide ((mY y).1.name = "<init>") && decide (((clCc (c.toNat - 1)).2.1 (a0 aux).toNat).1 = ownY y)))
def newB (own : String) (i : Nat) (aux : List Int) : Bool := decide (1 ≤ a0 aux) && decide (a0 aux ≤ 13) && decide (a1 aux = (clN ((a0 aux).toNat - 1) : Int)) && wIn (.classLink own i (clCc ((a0 aux).toNat - 1)).1) && wIn (.instantiable (clCc ((a0 aux).toNat - 1)).1 (clCc ((a0 aux).toNat - 1)).2.2) && wIn (.initialized (clCc ((a0 aux).toNat - 1)).1)
def instB (own : String) (i : Nat) (aux : List Int) : Bool := clkL.any fun q => decide (q.1 = own) && decide (q.2.1 = i) && wIn (.classLink own i q.2.2) && (List.range 13).all fun ci => !thg (ci + 1) || (if ((ci + 1 : Nat) : Int) ∈ aux then decide ((clCc ci).1 = q.2.2) || decide (((clCc ci).1, q.2.2) ∈ castL) else decide (((clCc ci).1, q.2.2) ∈ ncastL))
def pcN (desc : String) : Option Nat := (parseMethodDescriptor desc).map fun d => d.parameters.length
def plB (c : String) : Bool := decide (c ≠ "java/lang/invoke/MethodHandle") && decide (c ≠ "java/lang/invoke/VarHandle")
def ownNames : List String := ["CoinTelescope$Bird", "CoinTelescope$Boat", "CoinTelescope$House", "CoinTelescope$Search", "CoinTelescope$Ship", "CoinTelescope$Spire", "CoinTelescope$State", "CoinTelescope$Table", "CoinTelescope$Thing", "CoinTelescope$Told", "CoinTelescope$View", "CoinTelescope", "CoinTelescopeModel"]
theorem ownNames_plain : ∀ c ∈ ownNames, plainName c = true := by decide +kernel
def mB (y : Nat) : Bool := wYok 0 y && wYok 1 y && wYok 2 y && wYok 3 y && wYok 4 y && wY 0 y && wY 1 y && decide ((mY y).2.2.1 ≤ 40) && (decide ((mY y).1.cls ∈ ownNames) || plainFor (mY y).1) && plB (mY y).1.cls
def virB (own : String) (i na : Nat) (c y mode : Int) : Bool := decide (0 ≤ y) && decide (y.toNat < 217) && (
  if mode = 0 then decide ((mY y.toNat).1.cls = (if c = 500 then "java/lang/String" else (clCc (c.toNat - 1)).1)) && decide (c = 500 ∨ (1 ≤ c ∧ c ≤ 13)) && decide (pcN (mY y.toNat).1.desc = some na) && wIn (.methodLink own i (mY y.toNat).1) && wY 2 y.toNat && wY 4 y.toNat
  else decide (1 ≤ c) && decide (c ≤ 13) && wY 2 y.toNat && mrL.any fun q => decide (q.1 = own) && decide (q.2.1 = i) && decide (pcN q.2.2.desc = some na) && wIn (.methodLink own i q.2.2) && wIn (.selects (clCc (c.toNat - 1)).1 q.2.2 (mY y.toNat).1) &&
    (if mode = 1 then decide ((mY y.toNat).1.name = q.2.2.name) && decide ((mY y.toNat).1.desc = q.2.2.desc) && wIn (.sameMethod q.2.2.cls (mY y.toNat).1.cls q.2.2.name q.2.2.desc)
     else (List.range 217).any fun yo => decide ((mY yo).1.name = q.2.2.name) && decide ((mY yo).1.desc = q.2.2.desc) && plB (mY yo).1.cls && wIn (.sameMethod q.2.2.cls (mY yo).1.cls q.2.2.name q.2.2.desc) && wY 2 yo && wY 0 yo))
def virA (own : String) (i na : Nat) : List Int → Bool
  | c :: y :: mode :: r => virB own i na c y mode && virA own i na r
  | [] => true
  | _ => false
def supB (own : String) (i na y : Nat) : Bool := decide (y < 217) && decide ((mY y).1.name ≠ "<init>") && decide (pcN (mY y).1.desc = some na) && wY 2 y && mrL.any fun q => decide (q.1 = own) && decide (q.2.1 = i) && decide ((mY y).1.name = q.2.2.name) && decide ((mY y).1.desc = q.2.2.desc) && wIn (.methodLink own i q.2.2) && wIn (.sameMethod q.2.2.cls (mY y).1.cls q.2.2.name q.2.2.desc) && wIn (.superclass own q.2.2.cls) && (decide (q.2.2.cls = (mY y).1.cls) || wIn (.superclass q.2.2.cls (mY y).1.cls))
def spcB (own : String) (i na y : Nat) : Bool := decide (y < 217) && decide ((mY y).1.name = "<init>") && decide ((mY y).2.2.2 = none) && decide (pcN (mY y).1.desc = some na) && wIn (.methodLink own i (mY y).1) && wY 2 y
def staB (own : String) (i na y : Nat) : Bool := decide (y < 217) && decide (pcN (mY y).1.desc = some na) && wIn (.methodLink own i (mY y).1) && wY 3 y
def nstB (own : String) (i na y : Nat) : Bool := decide (y < 217) && decide (pcN (mY y).1.desc = some na) && wY 3 y && nestL.any fun q => decide (q.1 = own) && decide (q.2.1 = i) && decide (q.2.2.1 = (mY y).1)
def matB (own : String) (i : Nat) (z : MethodName) (b : ByteArray) (k : Nat) : Bool := wIn (.methodLink own i z) && wIn (.static z) && wIn (.initialized "java/lang/Math") && wIn (.code z b k (some .int))
def chkI (y pc : Nat) (ins : ClassFile.Instr) (aux : List Int) : Bool := match ins with
  | .iconst n => in32B n
  | .bipush n => in32B n && decide ((Int8.ofInt n).toInt32 = Int32.ofInt n)
  | .sipush n => in32B n && decide ((Int16.ofInt n).toInt32 = Int32.ofInt n)
  | .lconst z => decide (Int64.ofNat z.val = Int64.ofInt z.val)
  | .ldc i => if a0 aux = 0 then in32B (a1 aux) && wIn (.constant (ownY y) i (Int32.ofInt (a1 aux))) else decide ((a1 aux).toNat < sTexts.length) && strL.any (fun q => decide (q.1 = ownY y) && decide (q.2.1 = i) && decide (q.2.2.2 = (a1 aux).toNat))
  | .ldc2_w i => in64B (a0 aux) && wIn (.constantLong (ownY y) i (Int64.ofInt (a0 aux)))
  | .iload_n z => decide (z.val = ia aux)
  | .lload_n z => decide (z.val = ia aux)
  | .aload_n z => decide (z.val = ia aux)
  | .istore_n z => decide (z.val = ia aux)
  | .lstore_n z => decide (z.val = ia aux)
  | .astore_n z => decide (z.val = ia aux)
  | .iload i => decide (i = ia aux)
  | .lload i => decide (i = ia aux)
  | .aload i => decide (i = ia aux)
  | .istore i => decide (i = ia aux)
  | .lstore i => decide (i = ia aux)
  | .astore i => decide (i = ia aux)
  | .iinc i n => decide (i = ia aux) && decide (n = a1 aux)
  | .goto off => tgtB pc off aux
  | .ifCond _ off => tgtB pc off aux
  | .if_icmp _ off => tgtB pc off aux
  | .ifnull off => tgtB pc off aux
  | .ifnonnull off => tgtB pc off aux
  | .tableswitch d lo hi offs => decide (aux = ((pc : Int) + d) :: swT pc lo offs.toList) && decide (lo + offs.size = hi + 1) && decide (0 ≤ (pc : Int) + d) && offs.toList.all (fun o => decide (0 ≤ (pc : Int) + o))
  | .lookupswitch d ps => decide (aux = ((pc : Int) + d) :: lkT pc ps.toList) && (ps.toList.zip (ps.toList.drop 1)).all (fun (a, next) => a.1 < next.1) && decide (0 ≤ (pc : Int) + d) && ps.toList.all (fun o => decide (0 ≤ (pc : Int) + o.2))
  | .getfield i => getB (ownY y) i aux
  | .putfield i => putB y i aux
  | .getstatic i => if a0 aux = 0 then wIn (.fieldLink (ownY y) i "java/lang/String" "COMPACT_STRINGS" "Z") else wIn (.fieldLink (ownY y) i "jdk/internal/util/Preconditions" "SIOOBE_FORMATTER" "Ljava/util/function/BiFunction;")
  | .new i => newB (ownY y) i aux
  | .newarray t => (decide (t = .int ∧ a0 aux = 20) || decide (t = .boolean ∧ a0 aux = 21)) && wIn (.arrayClass (newarray.typeOf t))
  | .anewarray i => wIn (.classLink (ownY y) i "CoinTelescope$Thing")
  | .instanceof i => instB (ownY y) i aux
  | .invokevirtual i => virA (ownY y) i (ia aux) (aux.drop 1)
  | .invokespecial i => if a0 aux = 0 then wIn (.methodLink (ownY y) i Lib.objectInit) && wIn (.instanceMethod Lib.objectInit) && wIn (.code Lib.objectInit ⟨#[0xb1]⟩ 1 none) else if a0 aux = 1 then spcB (ownY y) i (a1 aux).toNat (a2 aux).toNat else supB (ownY y) i (a1 aux).toNat (a2 aux).toNat && (aux.drop 3).all (fun c => decide (1 ≤ c) && decide (c ≤ 13))
  | .invokestatic i => if a0 aux = 0 then staB (ownY y) i (a1 aux).toNat (a2 aux).toNat else if a0 aux = 1 then nstB (ownY y) i (a1 aux).toNat (a2 aux).toNat else if a0 aux = 2 then matB (ownY y) i Lib.Math.max.name Lib.Math.max.code 2 else if a0 aux = 3 then matB (ownY y) i Lib.Math.min.name Lib.Math.min.code 2 else if a0 aux = 4 then matB (ownY y) i Lib.Math.abs.name Lib.Math.abs.code 1
    else if a0 aux = 5 then wIn (.methodLink (ownY y) i arraycopyName) && wIn (.native arraycopyName) && wIn (.static arraycopyName) && wIn (.initialized "java/lang/System") else true
  | .lreturn => decide ((mY y).2.2.2 = some .long)
  | .areturn => match (mY y).2.2.2 with
    | some t => isRefT t
    | none => false
  | .return_ => decide ((mY y).2.2.2 = none)
  | _ => true
def ilen (ins : ClassFile.Instr) (d : Nat) : Nat := match ins with
  | .bipush _ | .iload _ | .lload _ | .aload _ | .istore _ | .lstore _ | .astore _ | .ldc _ | .newarray _ => 2
  | .sipush _ | .iinc _ _ | .ldc2_w _ | .goto _ | .ifCond _ _ | .if_icmp _ _ | .ifnull _ | .ifnonnull _ | .getfield _ | .putfield _ | .getstatic _ | .new _ | .anewarray _ | .instanceof _ | .invokevirtual _ | .invokespecial _ | .invokestatic _ => 3
  | .tableswitch _ _ _ _ | .lookupswitch _ _ => d
  | _ => 1
def chkE (y : Nat) (e : Nat × Nat × ClassFile.Instr × List Int) : Bool := decide (e.2.1 = e.1 + ilen e.2.2.1 (e.2.1 - e.1)) && decide (decode (mY y).2.1 e.1 = .ok (e.2.2.1, ilen e.2.2.1 (e.2.1 - e.1))) && chkI y e.1 e.2.2.1 e.2.2.2

abbrev chkP (y : Nat) : Prop := (cT.getD y []).all (chkE y) = true
abbrev mBP (y : Nat) : Prop := mB y = true
theorem wY_mem {k y : Nat} (hy : mB y = true) (hk : k < 5) (h : wY k y = true) : wordY k y ∈ AW := by
  simp only [mB, Bool.and_eq_true, decide_eq_true_eq] at hy
  obtain ⟨⟨⟨⟨⟨⟨⟨⟨⟨h0, h1⟩, h2⟩, h3⟩, h4⟩, -⟩, -⟩, -⟩, -⟩, -⟩ := hy
  have key : ∀ k, wYok k y = true → wY k y = true → wordY k y ∈ AW := by
    intro k g1 g2
    simp only [wYok, Bool.or_eq_true, decide_eq_true_eq] at g1
    simp only [wY, decide_eq_true_eq] at g2
    exact atW_mem (g1.resolve_left g2)
  match k, hk, h with
  | 0, _, h => exact key 0 h0 h
  | 1, _, h => exact key 1 h1 h
  | 2, _, h => exact key 2 h2 h
  | 3, _, h => exact key 3 h3 h
  | 4, _, h => exact key 4 h4 h
theorem all_split {α : Type} {l : List α} {f : α → Bool} (n : Nat) (h1 : (l.take n).all f = true) (h2 : (l.drop n).all f = true) : l.all f = true := by
  rw [← List.take_append_drop n l, List.all_append, h1, h2]
  rfl
theorem all_nil {α : Type} {l : List α} {f : α → Bool} (h : l.isEmpty = true) : l.all f = true := by
  cases l with
  | nil => rfl
  | cons a r => cases h
