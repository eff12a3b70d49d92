set_option maxRecDepth 20000 in
theorem az_ts0 : ∀ y M, y < 47 → az_ms (0 + y) = some M → ∀ q ∈ az_cds (0 + y), az_iok az_ms M.1.cls M.1.name M.2.1 q := by
  intro y M hy h
  match y, hy, h with
  | 0, _, h => exact (Option.some.inj h) ▸ az_t0
  | 1, _, h => exact (Option.some.inj h) ▸ az_t1
  | 2, _, h => exact (Option.some.inj h) ▸ az_t2
  | 3, _, h => exact (Option.some.inj h) ▸ az_t3
  | 4, _, h => exact (Option.some.inj h) ▸ az_t4
  | 5, _, h => exact (Option.some.inj h) ▸ az_t5
  | 6, _, h => exact (Option.some.inj h) ▸ az_t6
  | 7, _, h => exact (Option.some.inj h) ▸ az_t7
  | 8, _, h => exact (Option.some.inj h) ▸ az_t8
  | 9, _, h => exact (Option.some.inj h) ▸ az_t9
  | 10, _, h => exact (Option.some.inj h) ▸ az_t10
  | 11, _, h => exact (Option.some.inj h) ▸ az_t11
  | 12, _, h => exact (Option.some.inj h) ▸ az_t12
  | 13, _, h => exact (Option.some.inj h) ▸ az_t13
  | 14, _, h => exact (Option.some.inj h) ▸ az_t14
  | 15, _, h => exact (Option.some.inj h) ▸ az_t15
  | 16, _, h => exact (Option.some.inj h) ▸ az_t16
  | 17, _, h => exact (Option.some.inj h) ▸ az_t17
  | 18, _, h => exact (Option.some.inj h) ▸ az_t18
  | 19, _, h => exact (Option.some.inj h) ▸ az_t19
  | 20, _, h => exact (Option.some.inj h) ▸ az_t20
  | 21, _, h => exact (Option.some.inj h) ▸ az_t21
  | 22, _, h => exact (Option.some.inj h) ▸ az_t22
  | 23, _, h => exact (Option.some.inj h) ▸ az_t23
  | 24, _, h => exact (Option.some.inj h) ▸ az_t24
  | 25, _, h => exact (Option.some.inj h) ▸ az_t25
  | 26, _, h => exact (Option.some.inj h) ▸ az_t26
  | 27, _, h => exact (Option.some.inj h) ▸ az_t27
  | 28, _, h => exact (Option.some.inj h) ▸ az_t28
  | 29, _, h => exact (Option.some.inj h) ▸ az_t29
  | 30, _, h => exact (Option.some.inj h) ▸ az_t30
  | 31, _, h => exact (Option.some.inj h) ▸ az_t31
  | 32, _, h => exact (Option.some.inj h) ▸ az_t32
  | 33, _, h => exact (Option.some.inj h) ▸ az_t33
  | 34, _, h => exact (Option.some.inj h) ▸ az_t34
  | 35, _, h => exact (Option.some.inj h) ▸ az_t35
  | 36, _, h => exact (Option.some.inj h) ▸ az_t36
  | 37, _, h => exact (Option.some.inj h) ▸ az_t37
  | 38, _, h => exact (Option.some.inj h) ▸ az_t38
  | 39, _, h => exact (Option.some.inj h) ▸ az_t39
  | 40, _, h => exact (Option.some.inj h) ▸ az_t40
  | 41, _, h => exact (Option.some.inj h) ▸ az_t41
  | 42, _, h => exact (Option.some.inj h) ▸ az_t42
  | 43, _, h => exact (Option.some.inj h) ▸ az_t43
  | 44, _, h => exact (Option.some.inj h) ▸ az_t44
  | 45, _, h => exact (Option.some.inj h) ▸ az_t45
  | 46, _, h => exact (Option.some.inj h) ▸ az_t46
  | j + 47, hy, _ => omega
set_option maxRecDepth 20000 in
theorem az_ts1 : ∀ y M, y < 47 → az_ms (47 + y) = some M → ∀ q ∈ az_cds (47 + y), az_iok az_ms M.1.cls M.1.name M.2.1 q := by
  intro y M hy h
  match y, hy, h with
  | 0, _, h => exact (Option.some.inj h) ▸ az_t47
  | 1, _, h => exact (Option.some.inj h) ▸ az_t48
  | 2, _, h => exact (Option.some.inj h) ▸ az_t49
  | 3, _, h => exact (Option.some.inj h) ▸ az_t50
  | 4, _, h => exact (Option.some.inj h) ▸ az_t51
  | 5, _, h => exact (Option.some.inj h) ▸ az_t52
  | 6, _, h => exact (Option.some.inj h) ▸ az_t53
  | 7, _, h => exact (Option.some.inj h) ▸ az_t54
  | 8, _, h => exact (Option.some.inj h) ▸ az_t55
  | 9, _, h => exact (Option.some.inj h) ▸ az_t56
  | 10, _, h => exact (Option.some.inj h) ▸ az_t57
  | 11, _, h => exact (Option.some.inj h) ▸ az_t58
  | 12, _, h => exact (Option.some.inj h) ▸ az_t59
  | 13, _, h => exact (Option.some.inj h) ▸ az_t60
  | 14, _, h => exact (Option.some.inj h) ▸ az_t61
  | 15, _, h => exact (Option.some.inj h) ▸ az_t62
  | 16, _, h => exact (Option.some.inj h) ▸ az_t63
  | 17, _, h => exact (Option.some.inj h) ▸ az_t64
  | 18, _, h => exact (Option.some.inj h) ▸ az_t65
  | 19, _, h => exact (Option.some.inj h) ▸ az_t66
  | 20, _, h => exact (Option.some.inj h) ▸ az_t67
  | 21, _, h => exact (Option.some.inj h) ▸ az_t68
  | 22, _, h => exact (Option.some.inj h) ▸ az_t69
  | 23, _, h => exact (Option.some.inj h) ▸ az_t70
  | 24, _, h => exact (Option.some.inj h) ▸ az_t71
  | 25, _, h => exact (Option.some.inj h) ▸ az_t72
  | 26, _, h => exact (Option.some.inj h) ▸ az_t73
  | 27, _, h => exact (Option.some.inj h) ▸ az_t74
  | 28, _, h => exact (Option.some.inj h) ▸ az_t75
  | 29, _, h => exact (Option.some.inj h) ▸ az_t76
  | 30, _, h => exact (Option.some.inj h) ▸ az_t77
  | 31, _, h => exact (Option.some.inj h) ▸ az_t78
  | 32, _, h => exact (Option.some.inj h) ▸ az_t79
  | 33, _, h => exact (Option.some.inj h) ▸ az_t80
  | 34, _, h => exact (Option.some.inj h) ▸ az_t81
  | 35, _, h => exact (Option.some.inj h) ▸ az_t82
  | 36, _, h => exact (Option.some.inj h) ▸ az_t83
  | 37, _, h => exact (Option.some.inj h) ▸ az_t84
  | 38, _, h => exact (Option.some.inj h) ▸ az_t85
  | 39, _, h => exact (Option.some.inj h) ▸ az_t86
  | 40, _, h => exact (Option.some.inj h) ▸ az_t87
  | 41, _, h => exact (Option.some.inj h) ▸ az_t88
  | 42, _, h => exact (Option.some.inj h) ▸ az_t89
  | 43, _, h => exact (Option.some.inj h) ▸ az_t90
  | 44, _, h => exact (Option.some.inj h) ▸ az_t91
  | 45, _, h => exact (Option.some.inj h) ▸ az_t92
  | 46, _, h => exact (Option.some.inj h) ▸ az_t93
  | j + 47, hy, _ => omega
set_option maxRecDepth 20000 in
theorem az_ts2 : ∀ y M, y < 47 → az_ms (94 + y) = some M → ∀ q ∈ az_cds (94 + y), az_iok az_ms M.1.cls M.1.name M.2.1 q := by
  intro y M hy h
  match y, hy, h with
  | 0, _, h => exact (Option.some.inj h) ▸ az_t94
  | 1, _, h => exact (Option.some.inj h) ▸ az_t95
  | 2, _, h => exact (Option.some.inj h) ▸ az_t96
  | 3, _, h => exact (Option.some.inj h) ▸ az_t97
  | 4, _, h => exact (Option.some.inj h) ▸ az_t98
  | 5, _, h => exact (Option.some.inj h) ▸ az_t99
  | 6, _, h => exact (Option.some.inj h) ▸ az_t100
  | 7, _, h => exact (Option.some.inj h) ▸ az_t101
  | 8, _, h => exact (Option.some.inj h) ▸ az_t102
  | 9, _, h => exact (Option.some.inj h) ▸ az_t103
  | 10, _, h => exact (Option.some.inj h) ▸ az_t104
  | 11, _, h => exact (Option.some.inj h) ▸ az_t105
  | 12, _, h => exact (Option.some.inj h) ▸ az_t106
  | 13, _, h => exact (Option.some.inj h) ▸ az_t107
  | 14, _, h => exact (Option.some.inj h) ▸ az_t108
  | 15, _, h => exact (Option.some.inj h) ▸ az_t109
  | 16, _, h => exact (Option.some.inj h) ▸ az_t110
  | 17, _, h => exact (Option.some.inj h) ▸ az_t111
  | 18, _, h => exact (Option.some.inj h) ▸ az_t112
  | 19, _, h => exact (Option.some.inj h) ▸ az_t113
  | 20, _, h => exact (Option.some.inj h) ▸ az_t114
  | 21, _, h => exact (Option.some.inj h) ▸ az_t115
  | 22, _, h => exact (Option.some.inj h) ▸ az_t116
  | 23, _, h => exact (Option.some.inj h) ▸ az_t117
  | 24, _, h => exact (Option.some.inj h) ▸ az_t118
  | 25, _, h => exact (Option.some.inj h) ▸ az_t119
  | 26, _, h => exact (Option.some.inj h) ▸ az_t120
  | 27, _, h => exact (Option.some.inj h) ▸ az_t121
  | 28, _, h => exact (Option.some.inj h) ▸ az_t122
  | 29, _, h => exact (Option.some.inj h) ▸ az_t123
  | 30, _, h => exact (Option.some.inj h) ▸ az_t124
  | 31, _, h => exact (Option.some.inj h) ▸ az_t125
  | 32, _, h => exact (Option.some.inj h) ▸ az_t126
  | 33, _, h => exact (Option.some.inj h) ▸ az_t127
  | 34, _, h => exact (Option.some.inj h) ▸ az_t128
  | 35, _, h => exact (Option.some.inj h) ▸ az_t129
  | 36, _, h => exact (Option.some.inj h) ▸ az_t130
  | 37, _, h => exact (Option.some.inj h) ▸ az_t131
  | 38, _, h => exact (Option.some.inj h) ▸ az_t132
  | 39, _, h => exact (Option.some.inj h) ▸ az_t133
  | 40, _, h => exact (Option.some.inj h) ▸ az_t134
  | 41, _, h => exact (Option.some.inj h) ▸ az_t135
  | 42, _, h => exact (Option.some.inj h) ▸ az_t136
  | 43, _, h => exact (Option.some.inj h) ▸ az_t137
  | 44, _, h => exact (Option.some.inj h) ▸ az_t138
  | 45, _, h => exact (Option.some.inj h) ▸ az_t139
  | 46, _, h => exact (Option.some.inj h) ▸ az_t140
  | j + 47, hy, _ => omega
set_option maxRecDepth 20000 in
theorem az_ts3 : ∀ y M, y < 47 → az_ms (141 + y) = some M → ∀ q ∈ az_cds (141 + y), az_iok az_ms M.1.cls M.1.name M.2.1 q := by
  intro y M hy h
  match y, hy, h with
  | 0, _, h => exact (Option.some.inj h) ▸ az_t141
  | 1, _, h => exact (Option.some.inj h) ▸ az_t142
  | 2, _, h => exact (Option.some.inj h) ▸ az_t143
  | 3, _, h => exact (Option.some.inj h) ▸ az_t144
  | 4, _, h => exact (Option.some.inj h) ▸ az_t145
  | 5, _, h => exact (Option.some.inj h) ▸ az_t146
  | 6, _, h => exact (Option.some.inj h) ▸ az_t147
  | 7, _, h => exact (Option.some.inj h) ▸ az_t148
  | 8, _, h => exact (Option.some.inj h) ▸ az_t149
  | 9, _, h => exact (Option.some.inj h) ▸ az_t150
  | 10, _, h => exact (Option.some.inj h) ▸ az_t151
  | 11, _, h => exact (Option.some.inj h) ▸ az_t152
  | 12, _, h => exact (Option.some.inj h) ▸ az_t153
  | 13, _, h => exact (Option.some.inj h) ▸ az_t154
  | 14, _, h => exact (Option.some.inj h) ▸ az_t155
  | 15, _, h => exact (Option.some.inj h) ▸ az_t156
  | 16, _, h => exact (Option.some.inj h) ▸ az_t157
  | 17, _, h => exact (Option.some.inj h) ▸ az_t158
  | 18, _, h => exact (Option.some.inj h) ▸ az_t159
  | 19, _, h => exact (Option.some.inj h) ▸ az_t160
  | 20, _, h => exact (Option.some.inj h) ▸ az_t161
  | 21, _, h => exact (Option.some.inj h) ▸ az_t162
  | 22, _, h => exact (Option.some.inj h) ▸ az_t163
  | 23, _, h => exact (Option.some.inj h) ▸ az_t164
  | 24, _, h => exact (Option.some.inj h) ▸ az_t165
  | 25, _, h => exact (Option.some.inj h) ▸ az_t166
  | 26, _, h => exact (Option.some.inj h) ▸ az_t167
  | 27, _, h => exact (Option.some.inj h) ▸ az_t168
  | 28, _, h => exact (Option.some.inj h) ▸ az_t169
  | 29, _, h => exact (Option.some.inj h) ▸ az_t170
  | 30, _, h => exact (Option.some.inj h) ▸ az_t171
  | 31, _, h => exact (Option.some.inj h) ▸ az_t172
  | 32, _, h => exact (Option.some.inj h) ▸ az_t173
  | 33, _, h => exact (Option.some.inj h) ▸ az_t174
  | 34, _, h => exact (Option.some.inj h) ▸ az_t175
  | 35, _, h => exact (Option.some.inj h) ▸ az_t176
  | 36, _, h => exact (Option.some.inj h) ▸ az_t177
  | 37, _, h => exact (Option.some.inj h) ▸ az_t178
  | 38, _, h => exact (Option.some.inj h) ▸ az_t179
  | 39, _, h => exact (Option.some.inj h) ▸ az_t180
  | 40, _, h => exact (Option.some.inj h) ▸ az_t181
  | 41, _, h => exact (Option.some.inj h) ▸ az_t182
  | 42, _, h => exact (Option.some.inj h) ▸ az_t183
  | 43, _, h => exact (Option.some.inj h) ▸ az_t184
  | 44, _, h => exact (Option.some.inj h) ▸ az_t185
  | 45, _, h => exact (Option.some.inj h) ▸ az_t186
  | 46, _, h => exact (Option.some.inj h) ▸ az_t187
  | j + 47, hy, _ => omega
set_option maxRecDepth 20000 in
theorem az_ts4 : ∀ y M, y < 47 → az_ms (188 + y) = some M → ∀ q ∈ az_cds (188 + y), az_iok az_ms M.1.cls M.1.name M.2.1 q := by
  intro y M hy h
  match y, hy, h with
  | 0, _, h => exact (Option.some.inj h) ▸ az_t188
  | 1, _, h => exact (Option.some.inj h) ▸ az_t189
  | 2, _, h => exact (Option.some.inj h) ▸ az_t190
  | 3, _, h => exact (Option.some.inj h) ▸ az_t191
  | 4, _, h => exact (Option.some.inj h) ▸ az_t192
  | 5, _, h => exact (Option.some.inj h) ▸ az_t193
  | 6, _, h => exact (Option.some.inj h) ▸ az_t194
  | 7, _, h => exact (Option.some.inj h) ▸ az_t195
  | 8, _, h => exact (Option.some.inj h) ▸ az_t196
  | 9, _, h => exact (Option.some.inj h) ▸ az_t197
  | 10, _, h => exact (Option.some.inj h) ▸ az_t198
  | 11, _, h => exact (Option.some.inj h) ▸ az_t199
  | 12, _, h => exact (Option.some.inj h) ▸ az_t200
  | 13, _, h => exact (Option.some.inj h) ▸ az_t201
  | 14, _, h => exact (Option.some.inj h) ▸ az_t202
  | 15, _, h => exact (Option.some.inj h) ▸ az_t203
  | 16, _, h => exact (Option.some.inj h) ▸ az_t204
  | 17, _, h => exact (Option.some.inj h) ▸ az_t205
  | 18, _, h => exact (Option.some.inj h) ▸ az_t206
  | 19, _, h => exact (Option.some.inj h) ▸ az_t207
  | 20, _, h => exact (Option.some.inj h) ▸ az_t208
  | 21, _, h => exact (Option.some.inj h) ▸ az_t209
  | 22, _, h => exact (Option.some.inj h) ▸ az_t210
  | 23, _, h => exact (Option.some.inj h) ▸ az_t211
  | 24, _, h => exact (Option.some.inj h) ▸ az_t212
  | 25, _, h => exact (Option.some.inj h) ▸ az_t213
  | 26, _, h => exact (Option.some.inj h) ▸ az_t214
  | 27, _, h => exact (Option.some.inj h) ▸ az_t215
  | 28, _, h => exact (Option.some.inj h) ▸ az_t216
  | 29, _, h => exact (Option.some.inj h) ▸ az_t217
  | 30, _, h => exact (Option.some.inj h) ▸ az_t218
  | 31, _, h => exact (Option.some.inj h) ▸ az_t219
  | 32, _, h => exact (Option.some.inj h) ▸ az_t220
  | 33, _, h => exact (Option.some.inj h) ▸ az_t221
  | 34, _, h => exact (Option.some.inj h) ▸ az_t222
  | 35, _, h => exact (Option.some.inj h) ▸ az_t223
  | 36, _, h => exact (Option.some.inj h) ▸ az_t224
  | 37, _, h => exact (Option.some.inj h) ▸ az_t225
  | 38, _, h => exact (Option.some.inj h) ▸ az_t226
  | 39, _, h => exact (Option.some.inj h) ▸ az_t227
  | 40, _, h => exact (Option.some.inj h) ▸ az_t228
  | 41, _, h => exact (Option.some.inj h) ▸ az_t229
  | 42, _, h => exact (Option.some.inj h) ▸ az_t230
  | 43, _, h => exact (Option.some.inj h) ▸ az_t231
  | 44, _, h => exact (Option.some.inj h) ▸ az_t232
  | 45, _, h => exact (Option.some.inj h) ▸ az_t233
  | 46, _, h => exact (Option.some.inj h) ▸ az_t234
  | j + 47, hy, _ => omega
set_option maxRecDepth 20000 in
theorem az_ts5 : ∀ y M, y < 47 → az_ms (235 + y) = some M → ∀ q ∈ az_cds (235 + y), az_iok az_ms M.1.cls M.1.name M.2.1 q := by
  intro y M hy h
  match y, hy, h with
  | 0, _, h => exact (Option.some.inj h) ▸ az_t235
  | 1, _, h => exact (Option.some.inj h) ▸ az_t236
  | 2, _, h => exact (Option.some.inj h) ▸ az_t237
  | 3, _, h => exact (Option.some.inj h) ▸ az_t238
  | 4, _, h => exact (Option.some.inj h) ▸ az_t239
  | 5, _, h => exact (Option.some.inj h) ▸ az_t240
  | 6, _, h => exact (Option.some.inj h) ▸ az_t241
  | 7, _, h => exact (Option.some.inj h) ▸ az_t242
  | 8, _, h => exact (Option.some.inj h) ▸ az_t243
  | 9, _, h => exact (Option.some.inj h) ▸ az_t244
  | 10, _, h => exact (Option.some.inj h) ▸ az_t245
  | 11, _, h => exact (Option.some.inj h) ▸ az_t246
  | 12, _, h => exact (Option.some.inj h) ▸ az_t247
  | 13, _, h => exact (Option.some.inj h) ▸ az_t248
  | 14, _, h => exact (Option.some.inj h) ▸ az_t249
  | 15, _, h => exact (Option.some.inj h) ▸ az_t250
  | 16, _, h => exact (Option.some.inj h) ▸ az_t251
  | 17, _, h => exact (Option.some.inj h) ▸ az_t252
  | 18, _, h => exact (Option.some.inj h) ▸ az_t253
  | 19, _, h => exact (Option.some.inj h) ▸ az_t254
  | 20, _, h => exact (Option.some.inj h) ▸ az_t255
  | 21, _, h => exact (Option.some.inj h) ▸ az_t256
  | 22, _, h => exact (Option.some.inj h) ▸ az_t257
  | 23, _, h => exact (Option.some.inj h) ▸ az_t258
  | 24, _, h => exact (Option.some.inj h) ▸ az_t259
  | 25, _, h => exact (Option.some.inj h) ▸ az_t260
  | 26, _, h => exact (Option.some.inj h) ▸ az_t261
  | 27, _, h => exact (Option.some.inj h) ▸ az_t262
  | 28, _, h => exact (Option.some.inj h) ▸ az_t263
  | 29, _, h => exact (Option.some.inj h) ▸ az_t264
  | 30, _, h => exact (Option.some.inj h) ▸ az_t265
  | 31, _, h => exact (Option.some.inj h) ▸ az_t266
  | 32, _, h => exact (Option.some.inj h) ▸ az_t267
  | 33, _, h => exact (Option.some.inj h) ▸ az_t268
  | 34, _, h => exact (Option.some.inj h) ▸ az_t269
  | 35, _, h => exact (Option.some.inj h) ▸ az_t270
  | 36, _, h => exact (Option.some.inj h) ▸ az_t271
  | 37, _, h => exact (Option.some.inj h) ▸ az_t272
  | 38, _, h => exact (Option.some.inj h) ▸ az_t273
  | 39, _, h => exact (Option.some.inj h) ▸ az_t274
  | 40, _, h => exact (Option.some.inj h) ▸ az_t275
  | 41, _, h => exact (Option.some.inj h) ▸ az_t276
  | 42, _, h => exact (Option.some.inj h) ▸ az_t277
  | 43, _, h => exact (Option.some.inj h) ▸ az_t278
  | 44, _, h => exact (Option.some.inj h) ▸ az_t279
  | 45, _, h => exact (Option.some.inj h) ▸ az_t280
  | 46, _, h => exact (Option.some.inj h) ▸ az_t281
  | j + 47, hy, _ => omega
theorem az_T : ∀ y M, az_ms y = some M → plainFor M.1 = true ∧ ∀ q ∈ az_cds y, az_iok az_ms M.1.cls M.1.name M.2.1 q := by
  intro y M h
  refine ⟨az_mok_all.2 y M h, ?_⟩
  have hl := az_ms_lt h
  by_cases h0 : y < 47
  · have e : 0 + (y - 0) = y := by omega
    have := az_ts0 (y - 0) M (by omega) (by rw [e]; exact h)
    rw [e] at this
    exact this
  by_cases h1 : y < 94
  · have e : 47 + (y - 47) = y := by omega
    have := az_ts1 (y - 47) M (by omega) (by rw [e]; exact h)
    rw [e] at this
    exact this
  by_cases h2 : y < 141
  · have e : 94 + (y - 94) = y := by omega
    have := az_ts2 (y - 94) M (by omega) (by rw [e]; exact h)
    rw [e] at this
    exact this
  by_cases h3 : y < 188
  · have e : 141 + (y - 141) = y := by omega
    have := az_ts3 (y - 141) M (by omega) (by rw [e]; exact h)
    rw [e] at this
    exact this
  by_cases h4 : y < 235
  · have e : 188 + (y - 188) = y := by omega
    have := az_ts4 (y - 188) M (by omega) (by rw [e]; exact h)
    rw [e] at this
    exact this
  by_cases h5 : y < 282
  · have e : 235 + (y - 235) = y := by omega
    have := az_ts5 (y - 235) M (by omega) (by rw [e]; exact h)
    rw [e] at this
    exact this
  omega
