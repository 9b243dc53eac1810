theorem rin_1 : ∀ w ∈ wsL_law0_r1, w ∈ wsL_law := fun w h => (List.mem_append_left _ (List.mem_append_left _ (List.mem_append_left _ (List.mem_append_left _ (List.mem_append_left _ (List.mem_append_left _ (List.mem_append_left _ (List.mem_append_left _ (List.mem_append_left _ (List.mem_append_left _ (List.mem_append_left _ (List.mem_append_left _ (List.mem_append_left _ (List.mem_append_left _ (List.mem_append_left _ (List.mem_append_left _ (List.mem_append_left _ (List.mem_append_left _ h))))))))))))))))))
theorem rin_2 : ∀ w ∈ wsL_law0_r2, w ∈ wsL_law := fun w h => (List.mem_append_left _ (List.mem_append_left _ (List.mem_append_left _ (List.mem_append_left _ (List.mem_append_left _ (List.mem_append_left _ (List.mem_append_left _ (List.mem_append_left _ (List.mem_append_left _ (List.mem_append_left _ (List.mem_append_left _ (List.mem_append_left _ (List.mem_append_left _ (List.mem_append_left _ (List.mem_append_left _ (List.mem_append_left _ (List.mem_append_left _ (List.mem_append_right _ (List.mem_append_left _ h)))))))))))))))))))
theorem rin_3 : ∀ w ∈ wsL_law0_r3, w ∈ wsL_law := fun w h => (List.mem_append_left _ (List.mem_append_left _ (List.mem_append_left _ (List.mem_append_left _ (List.mem_append_left _ (List.mem_append_left _ (List.mem_append_left _ (List.mem_append_left _ (List.mem_append_left _ (List.mem_append_left _ (List.mem_append_left _ (List.mem_append_left _ (List.mem_append_left _ (List.mem_append_left _ (List.mem_append_left _ (List.mem_append_left _ (List.mem_append_left _ (List.mem_append_right _ (List.mem_append_right _ (List.mem_append_left _ h))))))))))))))))))))
theorem rin_4 : ∀ w ∈ wsL_law0_r4, w ∈ wsL_law := fun w h => (List.mem_append_left _ (List.mem_append_left _ (List.mem_append_left _ (List.mem_append_left _ (List.mem_append_left _ (List.mem_append_left _ (List.mem_append_left _ (List.mem_append_left _ (List.mem_append_left _ (List.mem_append_left _ (List.mem_append_left _ (List.mem_append_left _ (List.mem_append_left _ (List.mem_append_left _ (List.mem_append_left _ (List.mem_append_left _ (List.mem_append_left _ (List.mem_append_right _ (List.mem_append_right _ (List.mem_append_right _ (List.mem_append_left _ h)))))))))))))))))))))
theorem rin_5 : ∀ w ∈ wsL_law0_r5, w ∈ wsL_law := fun w h => (List.mem_append_left _ (List.mem_append_left _ (List.mem_append_left _ (List.mem_append_left _ (List.mem_append_left _ (List.mem_append_left _ (List.mem_append_left _ (List.mem_append_left _ (List.mem_append_left _ (List.mem_append_left _ (List.mem_append_left _ (List.mem_append_left _ (List.mem_append_left _ (List.mem_append_left _ (List.mem_append_left _ (List.mem_append_left _ (List.mem_append_left _ (List.mem_append_right _ (List.mem_append_right _ (List.mem_append_right _ (List.mem_append_right _ (List.mem_append_left _ h))))))))))))))))))))))
theorem rin_6 : ∀ w ∈ wsL_law0_r6, w ∈ wsL_law := fun w h => (List.mem_append_left _ (List.mem_append_left _ (List.mem_append_left _ (List.mem_append_left _ (List.mem_append_left _ (List.mem_append_left _ (List.mem_append_left _ (List.mem_append_left _ (List.mem_append_left _ (List.mem_append_left _ (List.mem_append_left _ (List.mem_append_left _ (List.mem_append_left _ (List.mem_append_left _ (List.mem_append_left _ (List.mem_append_left _ (List.mem_append_left _ (List.mem_append_right _ (List.mem_append_right _ (List.mem_append_right _ (List.mem_append_right _ (List.mem_append_right _ (List.mem_append_left _ h)))))))))))))))))))))))
theorem rin_7 : ∀ w ∈ wsL_law0_r7, w ∈ wsL_law := fun w h => (List.mem_append_left _ (List.mem_append_left _ (List.mem_append_left _ (List.mem_append_left _ (List.mem_append_left _ (List.mem_append_left _ (List.mem_append_left _ (List.mem_append_left _ (List.mem_append_left _ (List.mem_append_left _ (List.mem_append_left _ (List.mem_append_left _ (List.mem_append_left _ (List.mem_append_left _ (List.mem_append_left _ (List.mem_append_left _ (List.mem_append_left _ (List.mem_append_right _ (List.mem_append_right _ (List.mem_append_right _ (List.mem_append_right _ (List.mem_append_right _ (List.mem_append_right _ (List.mem_append_left _ h))))))))))))))))))))))))
theorem rin_8 : ∀ w ∈ wsL_law0_r8, w ∈ wsL_law := fun w h => (List.mem_append_left _ (List.mem_append_left _ (List.mem_append_left _ (List.mem_append_left _ (List.mem_append_left _ (List.mem_append_left _ (List.mem_append_left _ (List.mem_append_left _ (List.mem_append_left _ (List.mem_append_left _ (List.mem_append_left _ (List.mem_append_left _ (List.mem_append_left _ (List.mem_append_left _ (List.mem_append_left _ (List.mem_append_left _ (List.mem_append_left _ (List.mem_append_right _ (List.mem_append_right _ (List.mem_append_right _ (List.mem_append_right _ (List.mem_append_right _ (List.mem_append_right _ (List.mem_append_right _ (List.mem_append_left _ h)))))))))))))))))))))))))
theorem rin_9 : ∀ w ∈ wsL_law0_r9, w ∈ wsL_law := fun w h => (List.mem_append_left _ (List.mem_append_left _ (List.mem_append_left _ (List.mem_append_left _ (List.mem_append_left _ (List.mem_append_left _ (List.mem_append_left _ (List.mem_append_left _ (List.mem_append_left _ (List.mem_append_left _ (List.mem_append_left _ (List.mem_append_left _ (List.mem_append_left _ (List.mem_append_left _ (List.mem_append_left _ (List.mem_append_left _ (List.mem_append_left _ (List.mem_append_right _ (List.mem_append_right _ (List.mem_append_right _ (List.mem_append_right _ (List.mem_append_right _ (List.mem_append_right _ (List.mem_append_right _ (List.mem_append_right _ (List.mem_append_left _ h))))))))))))))))))))))))))
theorem rin_10 : ∀ w ∈ wsL_law0_r10, w ∈ wsL_law := fun w h => (List.mem_append_left _ (List.mem_append_left _ (List.mem_append_left _ (List.mem_append_left _ (List.mem_append_left _ (List.mem_append_left _ (List.mem_append_left _ (List.mem_append_left _ (List.mem_append_left _ (List.mem_append_left _ (List.mem_append_left _ (List.mem_append_left _ (List.mem_append_left _ (List.mem_append_left _ (List.mem_append_left _ (List.mem_append_left _ (List.mem_append_left _ (List.mem_append_right _ (List.mem_append_right _ (List.mem_append_right _ (List.mem_append_right _ (List.mem_append_right _ (List.mem_append_right _ (List.mem_append_right _ (List.mem_append_right _ (List.mem_append_right _ (List.mem_append_left _ h)))))))))))))))))))))))))))
theorem rin_11 : ∀ w ∈ wsL_law0_r11, w ∈ wsL_law := fun w h => (List.mem_append_left _ (List.mem_append_left _ (List.mem_append_left _ (List.mem_append_left _ (List.mem_append_left _ (List.mem_append_left _ (List.mem_append_left _ (List.mem_append_left _ (List.mem_append_left _ (List.mem_append_left _ (List.mem_append_left _ (List.mem_append_left _ (List.mem_append_left _ (List.mem_append_left _ (List.mem_append_left _ (List.mem_append_left _ (List.mem_append_left _ (List.mem_append_right _ (List.mem_append_right _ (List.mem_append_right _ (List.mem_append_right _ (List.mem_append_right _ (List.mem_append_right _ (List.mem_append_right _ (List.mem_append_right _ (List.mem_append_right _ (List.mem_append_right _ (List.mem_append_left _ h))))))))))))))))))))))))))))
theorem rin_12 : ∀ w ∈ wsL_law0_r12, w ∈ wsL_law := fun w h => (List.mem_append_left _ (List.mem_append_left _ (List.mem_append_left _ (List.mem_append_left _ (List.mem_append_left _ (List.mem_append_left _ (List.mem_append_left _ (List.mem_append_left _ (List.mem_append_left _ (List.mem_append_left _ (List.mem_append_left _ (List.mem_append_left _ (List.mem_append_left _ (List.mem_append_left _ (List.mem_append_left _ (List.mem_append_left _ (List.mem_append_left _ (List.mem_append_right _ (List.mem_append_right _ (List.mem_append_right _ (List.mem_append_right _ (List.mem_append_right _ (List.mem_append_right _ (List.mem_append_right _ (List.mem_append_right _ (List.mem_append_right _ (List.mem_append_right _ (List.mem_append_right _ (List.mem_append_left _ h)))))))))))))))))))))))))))))
theorem rin_13 : ∀ w ∈ wsL_law0_r13, w ∈ wsL_law := fun w h => (List.mem_append_left _ (List.mem_append_left _ (List.mem_append_left _ (List.mem_append_left _ (List.mem_append_left _ (List.mem_append_left _ (List.mem_append_left _ (List.mem_append_left _ (List.mem_append_left _ (List.mem_append_left _ (List.mem_append_left _ (List.mem_append_left _ (List.mem_append_left _ (List.mem_append_left _ (List.mem_append_left _ (List.mem_append_left _ (List.mem_append_left _ (List.mem_append_right _ (List.mem_append_right _ (List.mem_append_right _ (List.mem_append_right _ (List.mem_append_right _ (List.mem_append_right _ (List.mem_append_right _ (List.mem_append_right _ (List.mem_append_right _ (List.mem_append_right _ (List.mem_append_right _ (List.mem_append_right _ (List.mem_append_left _ h))))))))))))))))))))))))))))))
theorem rin_14 : ∀ w ∈ wsL_law0_r14, w ∈ wsL_law := fun w h => (List.mem_append_left _ (List.mem_append_left _ (List.mem_append_left _ (List.mem_append_left _ (List.mem_append_left _ (List.mem_append_left _ (List.mem_append_left _ (List.mem_append_left _ (List.mem_append_left _ (List.mem_append_left _ (List.mem_append_left _ (List.mem_append_left _ (List.mem_append_left _ (List.mem_append_left _ (List.mem_append_left _ (List.mem_append_left _ (List.mem_append_left _ (List.mem_append_right _ (List.mem_append_right _ (List.mem_append_right _ (List.mem_append_right _ (List.mem_append_right _ (List.mem_append_right _ (List.mem_append_right _ (List.mem_append_right _ (List.mem_append_right _ (List.mem_append_right _ (List.mem_append_right _ (List.mem_append_right _ (List.mem_append_right _ (List.mem_append_left _ h)))))))))))))))))))))))))))))))
theorem rin_15 : ∀ w ∈ wsL_law0_r15, w ∈ wsL_law := fun w h => (List.mem_append_left _ (List.mem_append_left _ (List.mem_append_left _ (List.mem_append_left _ (List.mem_append_left _ (List.mem_append_left _ (List.mem_append_left _ (List.mem_append_left _ (List.mem_append_left _ (List.mem_append_left _ (List.mem_append_left _ (List.mem_append_left _ (List.mem_append_left _ (List.mem_append_left _ (List.mem_append_left _ (List.mem_append_left _ (List.mem_append_left _ (List.mem_append_right _ (List.mem_append_right _ (List.mem_append_right _ (List.mem_append_right _ (List.mem_append_right _ (List.mem_append_right _ (List.mem_append_right _ (List.mem_append_right _ (List.mem_append_right _ (List.mem_append_right _ (List.mem_append_right _ (List.mem_append_right _ (List.mem_append_right _ (List.mem_append_right _ (List.mem_append_left _ h))))))))))))))))))))))))))))))))
theorem rin_16 : ∀ w ∈ wsL_law0_r16, w ∈ wsL_law := fun w h => (List.mem_append_left _ (List.mem_append_left _ (List.mem_append_left _ (List.mem_append_left _ (List.mem_append_left _ (List.mem_append_left _ (List.mem_append_left _ (List.mem_append_left _ (List.mem_append_left _ (List.mem_append_left _ (List.mem_append_left _ (List.mem_append_left _ (List.mem_append_left _ (List.mem_append_left _ (List.mem_append_left _ (List.mem_append_left _ (List.mem_append_left _ (List.mem_append_right _ (List.mem_append_right _ (List.mem_append_right _ (List.mem_append_right _ (List.mem_append_right _ (List.mem_append_right _ (List.mem_append_right _ (List.mem_append_right _ (List.mem_append_right _ (List.mem_append_right _ (List.mem_append_right _ (List.mem_append_right _ (List.mem_append_right _ (List.mem_append_right _ (List.mem_append_right _ (List.mem_append_left _ h)))))))))))))))))))))))))))))))))
theorem rin_17 : ∀ w ∈ wsL_law0_r17, w ∈ wsL_law := fun w h => (List.mem_append_left _ (List.mem_append_left _ (List.mem_append_left _ (List.mem_append_left _ (List.mem_append_left _ (List.mem_append_left _ (List.mem_append_left _ (List.mem_append_left _ (List.mem_append_left _ (List.mem_append_left _ (List.mem_append_left _ (List.mem_append_left _ (List.mem_append_left _ (List.mem_append_left _ (List.mem_append_left _ (List.mem_append_left _ (List.mem_append_left _ (List.mem_append_right _ (List.mem_append_right _ (List.mem_append_right _ (List.mem_append_right _ (List.mem_append_right _ (List.mem_append_right _ (List.mem_append_right _ (List.mem_append_right _ (List.mem_append_right _ (List.mem_append_right _ (List.mem_append_right _ (List.mem_append_right _ (List.mem_append_right _ (List.mem_append_right _ (List.mem_append_right _ (List.mem_append_right _ (List.mem_append_left _ h))))))))))))))))))))))))))))))))))
theorem rin_18 : ∀ w ∈ wsL_law0_r18, w ∈ wsL_law := fun w h => (List.mem_append_left _ (List.mem_append_left _ (List.mem_append_left _ (List.mem_append_left _ (List.mem_append_left _ (List.mem_append_left _ (List.mem_append_left _ (List.mem_append_left _ (List.mem_append_left _ (List.mem_append_left _ (List.mem_append_left _ (List.mem_append_left _ (List.mem_append_left _ (List.mem_append_left _ (List.mem_append_left _ (List.mem_append_left _ (List.mem_append_left _ (List.mem_append_right _ (List.mem_append_right _ (List.mem_append_right _ (List.mem_append_right _ (List.mem_append_right _ (List.mem_append_right _ (List.mem_append_right _ (List.mem_append_right _ (List.mem_append_right _ (List.mem_append_right _ (List.mem_append_right _ (List.mem_append_right _ (List.mem_append_right _ (List.mem_append_right _ (List.mem_append_right _ (List.mem_append_right _ (List.mem_append_right _ (List.mem_append_left _ h)))))))))))))))))))))))))))))))))))
theorem rin_19 : ∀ w ∈ wsL_law0_r19, w ∈ wsL_law := fun w h => (List.mem_append_left _ (List.mem_append_left _ (List.mem_append_left _ (List.mem_append_left _ (List.mem_append_left _ (List.mem_append_left _ (List.mem_append_left _ (List.mem_append_left _ (List.mem_append_left _ (List.mem_append_left _ (List.mem_append_left _ (List.mem_append_left _ (List.mem_append_left _ (List.mem_append_left _ (List.mem_append_left _ (List.mem_append_left _ (List.mem_append_left _ (List.mem_append_right _ (List.mem_append_right _ (List.mem_append_right _ (List.mem_append_right _ (List.mem_append_right _ (List.mem_append_right _ (List.mem_append_right _ (List.mem_append_right _ (List.mem_append_right _ (List.mem_append_right _ (List.mem_append_right _ (List.mem_append_right _ (List.mem_append_right _ (List.mem_append_right _ (List.mem_append_right _ (List.mem_append_right _ (List.mem_append_right _ (List.mem_append_right _ (List.mem_append_left _ h))))))))))))))))))))))))))))))))))))
theorem rin_20 : ∀ w ∈ wsL_law0_r20, w ∈ wsL_law := fun w h => (List.mem_append_left _ (List.mem_append_left _ (List.mem_append_left _ (List.mem_append_left _ (List.mem_append_left _ (List.mem_append_left _ (List.mem_append_left _ (List.mem_append_left _ (List.mem_append_left _ (List.mem_append_left _ (List.mem_append_left _ (List.mem_append_left _ (List.mem_append_left _ (List.mem_append_left _ (List.mem_append_left _ (List.mem_append_left _ (List.mem_append_left _ (List.mem_append_right _ (List.mem_append_right _ (List.mem_append_right _ (List.mem_append_right _ (List.mem_append_right _ (List.mem_append_right _ (List.mem_append_right _ (List.mem_append_right _ (List.mem_append_right _ (List.mem_append_right _ (List.mem_append_right _ (List.mem_append_right _ (List.mem_append_right _ (List.mem_append_right _ (List.mem_append_right _ (List.mem_append_right _ (List.mem_append_right _ (List.mem_append_right _ (List.mem_append_right _ (List.mem_append_left _ h)))))))))))))))))))))))))))))))))))))
theorem rin_21 : ∀ w ∈ wsL_law0_r21, w ∈ wsL_law := fun w h => (List.mem_append_left _ (List.mem_append_left _ (List.mem_append_left _ (List.mem_append_left _ (List.mem_append_left _ (List.mem_append_left _ (List.mem_append_left _ (List.mem_append_left _ (List.mem_append_left _ (List.mem_append_left _ (List.mem_append_left _ (List.mem_append_left _ (List.mem_append_left _ (List.mem_append_left _ (List.mem_append_left _ (List.mem_append_left _ (List.mem_append_left _ (List.mem_append_right _ (List.mem_append_right _ (List.mem_append_right _ (List.mem_append_right _ (List.mem_append_right _ (List.mem_append_right _ (List.mem_append_right _ (List.mem_append_right _ (List.mem_append_right _ (List.mem_append_right _ (List.mem_append_right _ (List.mem_append_right _ (List.mem_append_right _ (List.mem_append_right _ (List.mem_append_right _ (List.mem_append_right _ (List.mem_append_right _ (List.mem_append_right _ (List.mem_append_right _ (List.mem_append_right _ (List.mem_append_left _ h))))))))))))))))))))))))))))))))))))))
theorem rin_22 : ∀ w ∈ wsL_law0_r22, w ∈ wsL_law := fun w h => (List.mem_append_left _ (List.mem_append_left _ (List.mem_append_left _ (List.mem_append_left _ (List.mem_append_left _ (List.mem_append_left _ (List.mem_append_left _ (List.mem_append_left _ (List.mem_append_left _ (List.mem_append_left _ (List.mem_append_left _ (List.mem_append_left _ (List.mem_append_left _ (List.mem_append_left _ (List.mem_append_left _ (List.mem_append_left _ (List.mem_append_left _ (List.mem_append_right _ (List.mem_append_right _ (List.mem_append_right _ (List.mem_append_right _ (List.mem_append_right _ (List.mem_append_right _ (List.mem_append_right _ (List.mem_append_right _ (List.mem_append_right _ (List.mem_append_right _ (List.mem_append_right _ (List.mem_append_right _ (List.mem_append_right _ (List.mem_append_right _ (List.mem_append_right _ (List.mem_append_right _ (List.mem_append_right _ (List.mem_append_right _ (List.mem_append_right _ (List.mem_append_right _ (List.mem_append_right _ (List.mem_append_left _ h)))))))))))))))))))))))))))))))))))))))
theorem rin_23 : ∀ w ∈ wsL_law0_r23, w ∈ wsL_law := fun w h => (List.mem_append_left _ (List.mem_append_left _ (List.mem_append_left _ (List.mem_append_left _ (List.mem_append_left _ (List.mem_append_left _ (List.mem_append_left _ (List.mem_append_left _ (List.mem_append_left _ (List.mem_append_left _ (List.mem_append_left _ (List.mem_append_left _ (List.mem_append_left _ (List.mem_append_left _ (List.mem_append_left _ (List.mem_append_left _ (List.mem_append_left _ (List.mem_append_right _ (List.mem_append_right _ (List.mem_append_right _ (List.mem_append_right _ (List.mem_append_right _ (List.mem_append_right _ (List.mem_append_right _ (List.mem_append_right _ (List.mem_append_right _ (List.mem_append_right _ (List.mem_append_right _ (List.mem_append_right _ (List.mem_append_right _ (List.mem_append_right _ (List.mem_append_right _ (List.mem_append_right _ (List.mem_append_right _ (List.mem_append_right _ (List.mem_append_right _ (List.mem_append_right _ (List.mem_append_right _ (List.mem_append_right _ (List.mem_append_left _ h))))))))))))))))))))))))))))))))))))))))
theorem rin_24 : ∀ w ∈ wsL_law0_r24, w ∈ wsL_law := fun w h => (List.mem_append_left _ (List.mem_append_left _ (List.mem_append_left _ (List.mem_append_left _ (List.mem_append_left _ (List.mem_append_left _ (List.mem_append_left _ (List.mem_append_left _ (List.mem_append_left _ (List.mem_append_left _ (List.mem_append_left _ (List.mem_append_left _ (List.mem_append_left _ (List.mem_append_left _ (List.mem_append_left _ (List.mem_append_left _ (List.mem_append_left _ (List.mem_append_right _ (List.mem_append_right _ (List.mem_append_right _ (List.mem_append_right _ (List.mem_append_right _ (List.mem_append_right _ (List.mem_append_right _ (List.mem_append_right _ (List.mem_append_right _ (List.mem_append_right _ (List.mem_append_right _ (List.mem_append_right _ (List.mem_append_right _ (List.mem_append_right _ (List.mem_append_right _ (List.mem_append_right _ (List.mem_append_right _ (List.mem_append_right _ (List.mem_append_right _ (List.mem_append_right _ (List.mem_append_right _ (List.mem_append_right _ (List.mem_append_right _ (List.mem_append_left _ h)))))))))))))))))))))))))))))))))))))))))
theorem rin_25 : ∀ w ∈ wsL_law0_r25, w ∈ wsL_law := fun w h => (List.mem_append_left _ (List.mem_append_left _ (List.mem_append_left _ (List.mem_append_left _ (List.mem_append_left _ (List.mem_append_left _ (List.mem_append_left _ (List.mem_append_left _ (List.mem_append_left _ (List.mem_append_left _ (List.mem_append_left _ (List.mem_append_left _ (List.mem_append_left _ (List.mem_append_left _ (List.mem_append_left _ (List.mem_append_left _ (List.mem_append_left _ (List.mem_append_right _ (List.mem_append_right _ (List.mem_append_right _ (List.mem_append_right _ (List.mem_append_right _ (List.mem_append_right _ (List.mem_append_right _ (List.mem_append_right _ (List.mem_append_right _ (List.mem_append_right _ (List.mem_append_right _ (List.mem_append_right _ (List.mem_append_right _ (List.mem_append_right _ (List.mem_append_right _ (List.mem_append_right _ (List.mem_append_right _ (List.mem_append_right _ (List.mem_append_right _ (List.mem_append_right _ (List.mem_append_right _ (List.mem_append_right _ (List.mem_append_right _ (List.mem_append_right _ (List.mem_append_left _ h))))))))))))))))))))))))))))))))))))))))))
theorem rin_26 : ∀ w ∈ wsL_law0_r26, w ∈ wsL_law := fun w h => (List.mem_append_left _ (List.mem_append_left _ (List.mem_append_left _ (List.mem_append_left _ (List.mem_append_left _ (List.mem_append_left _ (List.mem_append_left _ (List.mem_append_left _ (List.mem_append_left _ (List.mem_append_left _ (List.mem_append_left _ (List.mem_append_left _ (List.mem_append_left _ (List.mem_append_left _ (List.mem_append_left _ (List.mem_append_left _ (List.mem_append_left _ (List.mem_append_right _ (List.mem_append_right _ (List.mem_append_right _ (List.mem_append_right _ (List.mem_append_right _ (List.mem_append_right _ (List.mem_append_right _ (List.mem_append_right _ (List.mem_append_right _ (List.mem_append_right _ (List.mem_append_right _ (List.mem_append_right _ (List.mem_append_right _ (List.mem_append_right _ (List.mem_append_right _ (List.mem_append_right _ (List.mem_append_right _ (List.mem_append_right _ (List.mem_append_right _ (List.mem_append_right _ (List.mem_append_right _ (List.mem_append_right _ (List.mem_append_right _ (List.mem_append_right _ (List.mem_append_right _ (List.mem_append_left _ h)))))))))))))))))))))))))))))))))))))))))))
theorem rin_27 : ∀ w ∈ wsL_law0_r27, w ∈ wsL_law := fun w h => (List.mem_append_left _ (List.mem_append_left _ (List.mem_append_left _ (List.mem_append_left _ (List.mem_append_left _ (List.mem_append_left _ (List.mem_append_left _ (List.mem_append_left _ (List.mem_append_left _ (List.mem_append_left _ (List.mem_append_left _ (List.mem_append_left _ (List.mem_append_left _ (List.mem_append_left _ (List.mem_append_left _ (List.mem_append_left _ (List.mem_append_left _ (List.mem_append_right _ (List.mem_append_right _ (List.mem_append_right _ (List.mem_append_right _ (List.mem_append_right _ (List.mem_append_right _ (List.mem_append_right _ (List.mem_append_right _ (List.mem_append_right _ (List.mem_append_right _ (List.mem_append_right _ (List.mem_append_right _ (List.mem_append_right _ (List.mem_append_right _ (List.mem_append_right _ (List.mem_append_right _ (List.mem_append_right _ (List.mem_append_right _ (List.mem_append_right _ (List.mem_append_right _ (List.mem_append_right _ (List.mem_append_right _ (List.mem_append_right _ (List.mem_append_right _ (List.mem_append_right _ (List.mem_append_right _ (List.mem_append_left _ h))))))))))))))))))))))))))))))))))))))))))))
theorem rin_28 : ∀ w ∈ wsL_law0_r28, w ∈ wsL_law := fun w h => (List.mem_append_left _ (List.mem_append_left _ (List.mem_append_left _ (List.mem_append_left _ (List.mem_append_left _ (List.mem_append_left _ (List.mem_append_left _ (List.mem_append_left _ (List.mem_append_left _ (List.mem_append_left _ (List.mem_append_left _ (List.mem_append_left _ (List.mem_append_left _ (List.mem_append_left _ (List.mem_append_left _ (List.mem_append_left _ (List.mem_append_left _ (List.mem_append_right _ (List.mem_append_right _ (List.mem_append_right _ (List.mem_append_right _ (List.mem_append_right _ (List.mem_append_right _ (List.mem_append_right _ (List.mem_append_right _ (List.mem_append_right _ (List.mem_append_right _ (List.mem_append_right _ (List.mem_append_right _ (List.mem_append_right _ (List.mem_append_right _ (List.mem_append_right _ (List.mem_append_right _ (List.mem_append_right _ (List.mem_append_right _ (List.mem_append_right _ (List.mem_append_right _ (List.mem_append_right _ (List.mem_append_right _ (List.mem_append_right _ (List.mem_append_right _ (List.mem_append_right _ (List.mem_append_right _ (List.mem_append_right _ (List.mem_append_left _ h)))))))))))))))))))))))))))))))))))))))))))))
theorem rin_29 : ∀ w ∈ wsL_law0_r29, w ∈ wsL_law := fun w h => (List.mem_append_left _ (List.mem_append_left _ (List.mem_append_left _ (List.mem_append_left _ (List.mem_append_left _ (List.mem_append_left _ (List.mem_append_left _ (List.mem_append_left _ (List.mem_append_left _ (List.mem_append_left _ (List.mem_append_left _ (List.mem_append_left _ (List.mem_append_left _ (List.mem_append_left _ (List.mem_append_left _ (List.mem_append_left _ (List.mem_append_left _ (List.mem_append_right _ (List.mem_append_right _ (List.mem_append_right _ (List.mem_append_right _ (List.mem_append_right _ (List.mem_append_right _ (List.mem_append_right _ (List.mem_append_right _ (List.mem_append_right _ (List.mem_append_right _ (List.mem_append_right _ (List.mem_append_right _ (List.mem_append_right _ (List.mem_append_right _ (List.mem_append_right _ (List.mem_append_right _ (List.mem_append_right _ (List.mem_append_right _ (List.mem_append_right _ (List.mem_append_right _ (List.mem_append_right _ (List.mem_append_right _ (List.mem_append_right _ (List.mem_append_right _ (List.mem_append_right _ (List.mem_append_right _ (List.mem_append_right _ (List.mem_append_right _ (List.mem_append_left _ h))))))))))))))))))))))))))))))))))))))))))))))
theorem rin_30 : ∀ w ∈ wsL_law0_r30, w ∈ wsL_law := fun w h => (List.mem_append_left _ (List.mem_append_left _ (List.mem_append_left _ (List.mem_append_left _ (List.mem_append_left _ (List.mem_append_left _ (List.mem_append_left _ (List.mem_append_left _ (List.mem_append_left _ (List.mem_append_left _ (List.mem_append_left _ (List.mem_append_left _ (List.mem_append_left _ (List.mem_append_left _ (List.mem_append_left _ (List.mem_append_left _ (List.mem_append_left _ (List.mem_append_right _ (List.mem_append_right _ (List.mem_append_right _ (List.mem_append_right _ (List.mem_append_right _ (List.mem_append_right _ (List.mem_append_right _ (List.mem_append_right _ (List.mem_append_right _ (List.mem_append_right _ (List.mem_append_right _ (List.mem_append_right _ (List.mem_append_right _ (List.mem_append_right _ (List.mem_append_right _ (List.mem_append_right _ (List.mem_append_right _ (List.mem_append_right _ (List.mem_append_right _ (List.mem_append_right _ (List.mem_append_right _ (List.mem_append_right _ (List.mem_append_right _ (List.mem_append_right _ (List.mem_append_right _ (List.mem_append_right _ (List.mem_append_right _ (List.mem_append_right _ (List.mem_append_right _ (List.mem_append_left _ h)))))))))))))))))))))))))))))))))))))))))))))))
theorem rin_31 : ∀ w ∈ wsL_law0_r31, w ∈ wsL_law := fun w h => (List.mem_append_left _ (List.mem_append_left _ (List.mem_append_left _ (List.mem_append_left _ (List.mem_append_left _ (List.mem_append_left _ (List.mem_append_left _ (List.mem_append_left _ (List.mem_append_left _ (List.mem_append_left _ (List.mem_append_left _ (List.mem_append_left _ (List.mem_append_left _ (List.mem_append_left _ (List.mem_append_left _ (List.mem_append_left _ (List.mem_append_left _ (List.mem_append_right _ (List.mem_append_right _ (List.mem_append_right _ (List.mem_append_right _ (List.mem_append_right _ (List.mem_append_right _ (List.mem_append_right _ (List.mem_append_right _ (List.mem_append_right _ (List.mem_append_right _ (List.mem_append_right _ (List.mem_append_right _ (List.mem_append_right _ (List.mem_append_right _ (List.mem_append_right _ (List.mem_append_right _ (List.mem_append_right _ (List.mem_append_right _ (List.mem_append_right _ (List.mem_append_right _ (List.mem_append_right _ (List.mem_append_right _ (List.mem_append_right _ (List.mem_append_right _ (List.mem_append_right _ (List.mem_append_right _ (List.mem_append_right _ (List.mem_append_right _ (List.mem_append_right _ (List.mem_append_right _ (List.mem_append_left _ h))))))))))))))))))))))))))))))))))))))))))))))))
theorem rin_32 : ∀ w ∈ wsL_law0_r32, w ∈ wsL_law := fun w h => (List.mem_append_left _ (List.mem_append_left _ (List.mem_append_left _ (List.mem_append_left _ (List.mem_append_left _ (List.mem_append_left _ (List.mem_append_left _ (List.mem_append_left _ (List.mem_append_left _ (List.mem_append_left _ (List.mem_append_left _ (List.mem_append_left _ (List.mem_append_left _ (List.mem_append_left _ (List.mem_append_left _ (List.mem_append_left _ (List.mem_append_left _ (List.mem_append_right _ (List.mem_append_right _ (List.mem_append_right _ (List.mem_append_right _ (List.mem_append_right _ (List.mem_append_right _ (List.mem_append_right _ (List.mem_append_right _ (List.mem_append_right _ (List.mem_append_right _ (List.mem_append_right _ (List.mem_append_right _ (List.mem_append_right _ (List.mem_append_right _ (List.mem_append_right _ (List.mem_append_right _ (List.mem_append_right _ (List.mem_append_right _ (List.mem_append_right _ (List.mem_append_right _ (List.mem_append_right _ (List.mem_append_right _ (List.mem_append_right _ (List.mem_append_right _ (List.mem_append_right _ (List.mem_append_right _ (List.mem_append_right _ (List.mem_append_right _ (List.mem_append_right _ (List.mem_append_right _ (List.mem_append_right _ h))))))))))))))))))))))))))))))))))))))))))))))))
def mX9_init : Mt := (yX9_init, cX9_init, 2, none, [])
def mX6_init : Mt := (yX6_init, cX6_init, 2, none, [])
def mX5_init : Mt := (yX5_init, cX5_init, 1, none, [])
def mX7_init : Mt := (yX7_init, cX7_init, 4, none, [])
def mX4_init : Mt := (yX4_init, cX4_init, 1, none, [])
def mX3_init : Mt := (yX3_init, cX3_init, 1, none, [])
def mX1_init : Mt := (yX1_init, cX1_init, 3, none, [])
def mX8_init : Mt := (yX8_init, cX8_init, 1, none, [])
def mX0_init : Mt := (yX0_init, cX0_init, 1, none, [])
def mX2_init : Mt := (yX2_init, cX2_init, 3, none, [])
def mX10_init : Mt := (yX10_init, cX10_init, 2, none, [])
def mL_rules : Mt := (yL_rules, cL_rules, 7, (some .int), [(0, 11, 14, 13), (0, 11, 18, 15)])
def mX9_rules : Mt := (yX9_rules, cX9_rules, 6, none, [])
def mX9_needGroup : Mt := (yX9_needGroup, cX9_needGroup, 1, none, [])
def mX9_needArgument : Mt := (yX9_needArgument, cX9_needArgument, 3, none, [])
def mX8_set : Mt := (yX8_set, cX8_set, 5, none, [])
def mX10_rules : Mt := (yX10_rules, cX10_rules, 6, none, [])
def mX10_within : Mt := (yX10_within, cX10_within, 3, (some .boolean), [])
def mX10_thrown : Mt := (yX10_thrown, cX10_thrown, 1, (some .int), [])
def mL_member : Mt := (yL_member, cL_member, 5, (some .int), [(0, 7, 10, 13), (0, 7, 14, 15)])
def mX9_member : Mt := (yX9_member, cX9_member, 5, none, [])
def mX9_memberOf : Mt := (yX9_memberOf, cX9_memberOf, 3, (some (.object "TalkNet$Member")), [])
def mX10_member : Mt := (yX10_member, cX10_member, 4, none, [])
def mX10_isMember : Mt := (yX10_isMember, cX10_isMember, 2, (some .boolean), [])
def mL_leave : Mt := (yL_leave, cL_leave, 5, (some .int), [(0, 17, 20, 13)])
def mX9_leave : Mt := (yX9_leave, cX9_leave, 4, (some .boolean), [])
def mX4_goAway : Mt := (yX4_goAway, cX4_goAway, 1, none, [])
def mX1_takeBack : Mt := (yX1_takeBack, cX1_takeBack, 4, none, [])
def mX1_placeOf : Mt := (yX1_placeOf, cX1_placeOf, 3, (some .int), [])
def mX1_goFromRow : Mt := (yX1_goFromRow, cX1_goFromRow, 3, none, [])
def mX1_grantTo : Mt := (yX1_grantTo, cX1_grantTo, 3, none, [])
def mX8_copyFrom : Mt := (yX8_copyFrom, cX8_copyFrom, 2, none, [])
def mX7_tell : Mt := (yX7_tell, cX7_tell, 5, none, [])
def mX6_send : Mt := (yX6_send, cX6_send, 8, none, [])
def mX7_tellOthers : Mt := (yX7_tellOthers, cX7_tellOthers, 7, none, [])
def mX10_leave : Mt := (yX10_leave, cX10_leave, 3, (some .boolean), [])
def mX10_clear : Mt := (yX10_clear, cX10_clear, 3, none, [])
def mX10_free : Mt := (yX10_free, cX10_free, 3, none, [])
def mX10_waitsAt : Mt := (yX10_waitsAt, cX10_waitsAt, 5, (some .int), [])
def mX10_placeOf : Mt := (yX10_placeOf, cX10_placeOf, 6, (some .int), [])
def mX10_above : Mt := (yX10_above, cX10_above, 3, (some .int), [])
def mX10_give : Mt := (yX10_give, cX10_give, 3, none, [])
def mX10_send : Mt := (yX10_send, cX10_send, 8, none, [])
def mX10_tellTalker : Mt := (yX10_tellTalker, cX10_tellTalker, 3, none, [])
def mL_press : Mt := (yL_press, cL_press, 6, (some .int), [(0, 12, 15, 13), (0, 12, 19, 29)])
def mX9_press : Mt := (yX9_press, cX9_press, 5, (some .int), [])
def mX9_memberThere : Mt := (yX9_memberThere, cX9_memberThere, 4, (some (.object "TalkNet$Member")), [])
def mX9_needState : Mt := (yX9_needState, cX9_needState, 1, none, [])
def mX9_sendRequest : Mt := (yX9_sendRequest, cX9_sendRequest, 4, none, [])
def mX10_press : Mt := (yX10_press, cX10_press, 5, (some .int), [])
def mX10_ask : Mt := (yX10_ask, cX10_ask, 4, none, [])
def mL_again : Mt := (yL_again, cL_again, 4, (some .int), [(0, 6, 9, 13), (0, 6, 12, 29)])
def mX9_again : Mt := (yX9_again, cX9_again, 4, none, [])
def mX4_isAsking : Mt := (yX4_isAsking, cX4_isAsking, 1, (some .boolean), [])
def mX10_again : Mt := (yX10_again, cX10_again, 4, none, [])
def mL_release : Mt := (yL_release, cL_release, 4, (some .int), [(0, 6, 9, 13), (0, 6, 12, 29)])
def mX9_release : Mt := (yX9_release, cX9_release, 4, none, [])
def mX10_release : Mt := (yX10_release, cX10_release, 4, none, [])
def mL_unit : Mt := (yL_unit, cL_unit, 6, (some .int), [(0, 12, 15, 13), (0, 12, 19, 29), (0, 12, 23, 42)])
def mX9_unit : Mt := (yX9_unit, cX9_unit, 6, (some .int), [])
def mX4_isTalking : Mt := (yX4_isTalking, cX4_isTalking, 1, (some .boolean), [])
def mX10_unit : Mt := (yX10_unit, cX10_unit, 5, (some .int), [])
def mX9_messages : Mt := (yX9_messages, cX9_messages, 1, (some .int), [])
def mX10_messages : Mt := (yX10_messages, cX10_messages, 1, (some .int), [])
def mL_message : Mt := (yL_message, cL_message, 5, (some .int), [(0, 10, 13, 13), (0, 10, 17, 48)])
def mX9_message : Mt := (yX9_message, cX9_message, 3, (some .int), [])
def mX9_needMessage : Mt := (yX9_needMessage, cX9_needMessage, 2, none, [])
def mX9_needIndex : Mt := (yX9_needIndex, cX9_needIndex, 2, none, [])
def mX6_at : Mt := (yX6_at, cX6_at, 2, (some (.object "TalkNet$Message")), [])
def mX5_field : Mt := (yX5_field, cX5_field, 2, (some .int), [])
def mX10_message : Mt := (yX10_message, cX10_message, 3, (some .int), [])
def mX10_isMessage : Mt := (yX10_isMessage, cX10_isMessage, 2, (some .boolean), [])
def mL_carry : Mt := (yL_carry, cL_carry, 3, (some .int), [(0, 5, 8, 13)])
def mX9_carry : Mt := (yX9_carry, cX9_carry, 2, none, [])
def mX6_takeOut : Mt := (yX6_takeOut, cX6_takeOut, 3, (some (.object "TalkNet$Message")), [])
def mX9_deliver : Mt := (yX9_deliver, cX9_deliver, 2, none, [])
def mX1_hearRequest : Mt := (yX1_hearRequest, cX1_hearRequest, 6, none, [])
def mX1_answerAgain : Mt := (yX1_answerAgain, cX1_answerAgain, 4, none, [])
def mX0_renew : Mt := (yX0_renew, cX0_renew, 4, none, [])
def mX1_enqueue : Mt := (yX1_enqueue, cX1_enqueue, 4, none, [])
def mX0_isAbove : Mt := (yX0_isAbove, cX0_isAbove, 2, (some .boolean), [])
def mX1_revokeIfBelow : Mt := (yX1_revokeIfBelow, cX1_revokeIfBelow, 3, none, [])
def mX1_hearRelease : Mt := (yX1_hearRelease, cX1_hearRelease, 5, none, [])
def mX2_hearGate : Mt := (yX2_hearGate, cX2_hearGate, 3, none, [])
def mX2_hearUnit : Mt := (yX2_hearUnit, cX2_hearUnit, 6, none, [])
def mX2_lets : Mt := (yX2_lets, cX2_lets, 4, (some .boolean), [])
def mX1_hearPassed : Mt := (yX1_hearPassed, cX1_hearPassed, 3, none, [])
def mX4_hear : Mt := (yX4_hear, cX4_hear, 3, none, [])
def mX4_hearAnswer : Mt := (yX4_hearAnswer, cX4_hearAnswer, 2, none, [])
def mX4_hearTalker : Mt := (yX4_hearTalker, cX4_hearTalker, 3, none, [])
def mX3_hear : Mt := (yX3_hear, cX3_hear, 5, none, [])
def mX3_begin : Mt := (yX3_begin, cX3_begin, 4, none, [])
def mX3_isKept : Mt := (yX3_isKept, cX3_isKept, 2, (some .boolean), [])
def mX3_bitOf : Mt := (yX3_bitOf, cX3_bitOf, 1, (some .int), [])
def mX3_slotOf : Mt := (yX3_slotOf, cX3_slotOf, 1, (some .int), [])
def mX10_carry : Mt := (yX10_carry, cX10_carry, 2, none, [])
def mX10_comes : Mt := (yX10_comes, cX10_comes, 9, none, [])
def mX10_takeOut : Mt := (yX10_takeOut, cX10_takeOut, 3, none, [])
def mX10_requested : Mt := (yX10_requested, cX10_requested, 6, none, [])
def mX10_waitCount : Mt := (yX10_waitCount, cX10_waitCount, 4, (some .int), [])
def mX10_released : Mt := (yX10_released, cX10_released, 5, none, [])
def mX10_gateComes : Mt := (yX10_gateComes, cX10_gateComes, 5, none, [])
def mX10_unitComes : Mt := (yX10_unitComes, cX10_unitComes, 8, none, [])
def mX10_memberHears : Mt := (yX10_memberHears, cX10_memberHears, 11, none, [])
def mX10_listen : Mt := (yX10_listen, cX10_listen, 6, none, [])
def mL_twice : Mt := (yL_twice, cL_twice, 3, (some .int), [(0, 5, 8, 13)])
def mX9_twice : Mt := (yX9_twice, cX9_twice, 2, none, [])
def mX10_twice : Mt := (yX10_twice, cX10_twice, 2, none, [])
def mL_drop : Mt := (yL_drop, cL_drop, 3, (some .int), [(0, 5, 8, 13)])
def mX9_drop : Mt := (yX9_drop, cX9_drop, 2, none, [])
def mX10_drop : Mt := (yX10_drop, cX10_drop, 2, none, [])
def mL_run : Mt := (yL_run, cL_run, 4, (some .int), [(0, 9, 12, 15)])
def mX9_run : Mt := (yX9_run, cX9_run, 3, (some .int), [])
def mX10_run : Mt := (yX10_run, cX10_run, 3, (some .int), [])
def mX9_tick : Mt := (yX9_tick, cX9_tick, 2, (some .int), [])
def mX1_passTime : Mt := (yX1_passTime, cX1_passTime, 2, none, [])
def mX1_isOver : Mt := (yX1_isOver, cX1_isOver, 3, (some .boolean), [])
def mX7_play : Mt := (yX7_play, cX7_play, 3, none, [])
def mX3_play : Mt := (yX3_play, cX3_play, 2, none, [])
def mX3_playUnit : Mt := (yX3_playUnit, cX3_playUnit, 1, none, [])
def mX3_addToSum : Mt := (yX3_addToSum, cX3_addToSum, 2, none, [])
def mX3_playGap : Mt := (yX3_playGap, cX3_playGap, 1, none, [])
def mX10_tick : Mt := (yX10_tick, cX10_tick, 3, (some .int), [])
def mX10_serverTick : Mt := (yX10_serverTick, cX10_serverTick, 4, none, [])
def mX10_play : Mt := (yX10_play, cX10_play, 4, none, [])
def mL_server : Mt := (yL_server, cL_server, 5, (some .int), [(0, 10, 13, 13), (0, 10, 17, 48)])
def mX9_server : Mt := (yX9_server, cX9_server, 3, (some .int), [])
def mX1_field : Mt := (yX1_field, cX1_field, 2, (some .int), [])
def mX10_server : Mt := (yX10_server, cX10_server, 3, (some .int), [])
def mL_waiting : Mt := (yL_waiting, cL_waiting, 5, (some .int), [(0, 10, 13, 13), (0, 10, 17, 48)])
def mX9_waiting : Mt := (yX9_waiting, cX9_waiting, 3, (some .int), [])
def mX10_waiting : Mt := (yX10_waiting, cX10_waiting, 3, (some .int), [])
def mL_relay : Mt := (yL_relay, cL_relay, 5, (some .int), [(0, 10, 13, 13), (0, 10, 17, 48)])
def mX9_relay : Mt := (yX9_relay, cX9_relay, 3, (some .int), [])
def mX2_field : Mt := (yX2_field, cX2_field, 2, (some .int), [])
def mX10_relay : Mt := (yX10_relay, cX10_relay, 3, (some .int), [])
def mL_about : Mt := (yL_about, cL_about, 6, (some .int), [(0, 12, 15, 13), (0, 12, 19, 48)])
def mX9_about : Mt := (yX9_about, cX9_about, 5, (some .int), [])
def mX4_field : Mt := (yX4_field, cX4_field, 2, (some .int), [])
def mX3_field : Mt := (yX3_field, cX3_field, 2, (some .int), [])
def mX10_about : Mt := (yX10_about, cX10_about, 5, (some .int), [])
def mX10_aboutSpurt : Mt := (yX10_aboutSpurt, cX10_aboutSpurt, 3, (some .int), [])
def mX9_lost : Mt := (yX9_lost, cX9_lost, 1, (some .int), [])
def mX10_lost : Mt := (yX10_lost, cX10_lost, 1, (some .int), [])
def mL_law : Mt := (yL_law, cL_law, 7, (some .boolean), [])
theorem fX9_init : MF mX9_init 0 := ⟨by rw [Mw_plain rfl]; exact rin_1 _ (List.mem_of_getElem? (i := 9) rfl), rin_1 _ (List.mem_of_getElem? (i := 2) rfl), by decide +kernel, by decide⟩
theorem fX6_init : MF mX6_init 0 := ⟨by rw [Mw_plain rfl]; exact rin_2 _ (List.mem_of_getElem? (i := 7) rfl), rin_1 _ (List.mem_of_getElem? (i := 15) rfl), by decide +kernel, by decide⟩
theorem fX5_init : MF mX5_init 0 := ⟨by rw [Mw_plain rfl]; exact rin_2 _ (List.mem_of_getElem? (i := 16) rfl), rin_2 _ (List.mem_of_getElem? (i := 14) rfl), by decide +kernel, by decide⟩
theorem fX7_init : MF mX7_init 2 := ⟨by rw [Mw_plain rfl]; exact rin_2 _ (List.mem_of_getElem? (i := 20) rfl), rin_2 _ (List.mem_of_getElem? (i := 0) rfl), by decide +kernel, by decide⟩
theorem fX4_init : MF mX4_init 0 := ⟨by rw [Mw_plain rfl]; exact rin_3 _ (List.mem_of_getElem? (i := 5) rfl), rin_3 _ (List.mem_of_getElem? (i := 3) rfl), by decide +kernel, by decide⟩
theorem fX3_init : MF mX3_init 0 := ⟨by rw [Mw_plain rfl]; exact rin_3 _ (List.mem_of_getElem? (i := 14) rfl), rin_3 _ (List.mem_of_getElem? (i := 11) rfl), by decide +kernel, by decide⟩
theorem fX1_init : MF mX1_init 1 := ⟨by rw [Mw_plain rfl]; exact rin_3 _ (List.mem_of_getElem? (i := 19) rfl), rin_2 _ (List.mem_of_getElem? (i := 2) rfl), by decide +kernel, by decide⟩
theorem fX8_init : MF mX8_init 0 := ⟨by rw [Mw_plain rfl]; exact rin_4 _ (List.mem_of_getElem? (i := 13) rfl), rin_3 _ (List.mem_of_getElem? (i := 23) rfl), by decide +kernel, by decide⟩
theorem fX0_init : MF mX0_init 0 := ⟨by rw [Mw_plain rfl]; exact rin_4 _ (List.mem_of_getElem? (i := 19) rfl), rin_4 _ (List.mem_of_getElem? (i := 11) rfl), by decide +kernel, by decide⟩
theorem fX2_init : MF mX2_init 2 := ⟨by rw [Mw_plain rfl]; exact rin_4 _ (List.mem_of_getElem? (i := 23) rfl), rin_2 _ (List.mem_of_getElem? (i := 4) rfl), by decide +kernel, by decide⟩
theorem fX10_init : MF mX10_init 0 := ⟨by rw [Mw_plain rfl]; exact rin_5 _ (List.mem_of_getElem? (i := 6) rfl), rin_1 _ (List.mem_of_getElem? (i := 5) rfl), by decide +kernel, by decide⟩
theorem fL_rules : MF mL_rules 6 := ⟨by unfold Mw; rw [if_neg (by decide)]; exact rin_7 _ (List.mem_of_getElem? (i := 9) rfl), rin_7 _ (List.mem_of_getElem? (i := 8) rfl), by decide +kernel, by decide⟩
theorem fX9_rules : MF mX9_rules 5 := ⟨by rw [Mw_plain rfl]; exact rin_7 _ (List.mem_of_getElem? (i := 15) rfl), rin_1 _ (List.mem_of_getElem? (i := 2) rfl), by decide +kernel, by decide⟩
theorem fX9_needGroup : MF mX9_needGroup 1 := ⟨by rw [Mw_plain rfl]; exact rin_7 _ (List.mem_of_getElem? (i := 19) rfl), rin_1 _ (List.mem_of_getElem? (i := 2) rfl), by decide +kernel, by decide⟩
theorem fX9_needArgument : MF mX9_needArgument 3 := ⟨by rw [Mw_plain rfl]; exact rin_8 _ (List.mem_of_getElem? (i := 0) rfl), rin_1 _ (List.mem_of_getElem? (i := 2) rfl), by decide +kernel, by decide⟩
theorem fX8_set : MF mX8_set 4 := ⟨by rw [Mw_plain rfl]; exact rin_8 _ (List.mem_of_getElem? (i := 6) rfl), rin_3 _ (List.mem_of_getElem? (i := 23) rfl), by decide +kernel, by decide⟩
theorem fX10_rules : MF mX10_rules 5 := ⟨by rw [Mw_plain rfl]; exact rin_8 _ (List.mem_of_getElem? (i := 11) rfl), rin_1 _ (List.mem_of_getElem? (i := 5) rfl), by decide +kernel, by decide⟩
theorem fX10_within : MF mX10_within 3 := ⟨by rw [Mw_plain rfl]; exact rin_8 _ (List.mem_of_getElem? (i := 15) rfl), rin_1 _ (List.mem_of_getElem? (i := 5) rfl), by decide +kernel, by decide⟩
theorem fX10_thrown : MF mX10_thrown 0 := ⟨by rw [Mw_plain rfl]; exact rin_8 _ (List.mem_of_getElem? (i := 19) rfl), rin_1 _ (List.mem_of_getElem? (i := 5) rfl), by decide +kernel, by decide⟩
theorem fL_member : MF mL_member 4 := ⟨by unfold Mw; rw [if_neg (by decide)]; exact rin_8 _ (List.mem_of_getElem? (i := 22) rfl), rin_7 _ (List.mem_of_getElem? (i := 8) rfl), by decide +kernel, by decide⟩
theorem fX9_member : MF mX9_member 3 := ⟨by rw [Mw_plain rfl]; exact rin_9 _ (List.mem_of_getElem? (i := 2) rfl), rin_1 _ (List.mem_of_getElem? (i := 2) rfl), by decide +kernel, by decide⟩
theorem fX9_memberOf : MF mX9_memberOf 2 := ⟨by rw [Mw_plain rfl]; exact rin_9 _ (List.mem_of_getElem? (i := 8) rfl), rin_1 _ (List.mem_of_getElem? (i := 2) rfl), by decide +kernel, by decide⟩
theorem fX10_member : MF mX10_member 3 := ⟨by rw [Mw_plain rfl]; exact rin_9 _ (List.mem_of_getElem? (i := 13) rfl), rin_1 _ (List.mem_of_getElem? (i := 5) rfl), by decide +kernel, by decide⟩
theorem fX10_isMember : MF mX10_isMember 2 := ⟨by rw [Mw_plain rfl]; exact rin_9 _ (List.mem_of_getElem? (i := 16) rfl), rin_1 _ (List.mem_of_getElem? (i := 5) rfl), by decide +kernel, by decide⟩
theorem fL_leave : MF mL_leave 4 := ⟨by unfold Mw; rw [if_neg (by decide)]; exact rin_9 _ (List.mem_of_getElem? (i := 19) rfl), rin_7 _ (List.mem_of_getElem? (i := 8) rfl), by decide +kernel, by decide⟩
theorem fX9_leave : MF mX9_leave 2 := ⟨by rw [Mw_plain rfl]; exact rin_9 _ (List.mem_of_getElem? (i := 23) rfl), rin_1 _ (List.mem_of_getElem? (i := 2) rfl), by decide +kernel, by decide⟩
theorem fX4_goAway : MF mX4_goAway 0 := ⟨by rw [Mw_plain rfl]; exact rin_10 _ (List.mem_of_getElem? (i := 4) rfl), rin_3 _ (List.mem_of_getElem? (i := 3) rfl), by decide +kernel, by decide⟩
theorem fX1_takeBack : MF mX1_takeBack 2 := ⟨by rw [Mw_plain rfl]; exact rin_10 _ (List.mem_of_getElem? (i := 10) rfl), rin_2 _ (List.mem_of_getElem? (i := 2) rfl), by decide +kernel, by decide⟩
theorem fX1_placeOf : MF mX1_placeOf 1 := ⟨by rw [Mw_plain rfl]; exact rin_10 _ (List.mem_of_getElem? (i := 16) rfl), rin_2 _ (List.mem_of_getElem? (i := 2) rfl), by decide +kernel, by decide⟩
theorem fX1_goFromRow : MF mX1_goFromRow 1 := ⟨by rw [Mw_plain rfl]; exact rin_10 _ (List.mem_of_getElem? (i := 20) rfl), rin_2 _ (List.mem_of_getElem? (i := 2) rfl), by decide +kernel, by decide⟩
theorem fX1_grantTo : MF mX1_grantTo 2 := ⟨by rw [Mw_plain rfl]; exact rin_11 _ (List.mem_of_getElem? (i := 0) rfl), rin_2 _ (List.mem_of_getElem? (i := 2) rfl), by decide +kernel, by decide⟩
theorem fX8_copyFrom : MF mX8_copyFrom 1 := ⟨by rw [Mw_plain rfl]; exact rin_11 _ (List.mem_of_getElem? (i := 5) rfl), rin_3 _ (List.mem_of_getElem? (i := 23) rfl), by decide +kernel, by decide⟩
theorem fX7_tell : MF mX7_tell 4 := ⟨by rw [Mw_plain rfl]; exact rin_11 _ (List.mem_of_getElem? (i := 10) rfl), rin_2 _ (List.mem_of_getElem? (i := 0) rfl), by decide +kernel, by decide⟩
theorem fX6_send : MF mX6_send 6 := ⟨by rw [Mw_plain rfl]; exact rin_11 _ (List.mem_of_getElem? (i := 14) rfl), rin_1 _ (List.mem_of_getElem? (i := 15) rfl), by decide +kernel, by decide⟩
theorem fX7_tellOthers : MF mX7_tellOthers 5 := ⟨by rw [Mw_plain rfl]; exact rin_12 _ (List.mem_of_getElem? (i := 2) rfl), rin_2 _ (List.mem_of_getElem? (i := 0) rfl), by decide +kernel, by decide⟩
theorem fX10_leave : MF mX10_leave 2 := ⟨by rw [Mw_plain rfl]; exact rin_12 _ (List.mem_of_getElem? (i := 7) rfl), rin_1 _ (List.mem_of_getElem? (i := 5) rfl), by decide +kernel, by decide⟩
theorem fX10_clear : MF mX10_clear 2 := ⟨by rw [Mw_plain rfl]; exact rin_12 _ (List.mem_of_getElem? (i := 11) rfl), rin_1 _ (List.mem_of_getElem? (i := 5) rfl), by decide +kernel, by decide⟩
theorem fX10_free : MF mX10_free 1 := ⟨by rw [Mw_plain rfl]; exact rin_12 _ (List.mem_of_getElem? (i := 15) rfl), rin_1 _ (List.mem_of_getElem? (i := 5) rfl), by decide +kernel, by decide⟩
theorem fX10_waitsAt : MF mX10_waitsAt 2 := ⟨by rw [Mw_plain rfl]; exact rin_12 _ (List.mem_of_getElem? (i := 19) rfl), rin_1 _ (List.mem_of_getElem? (i := 5) rfl), by decide +kernel, by decide⟩
theorem fX10_placeOf : MF mX10_placeOf 1 := ⟨by rw [Mw_plain rfl]; exact rin_12 _ (List.mem_of_getElem? (i := 23) rfl), rin_1 _ (List.mem_of_getElem? (i := 5) rfl), by decide +kernel, by decide⟩
theorem fX10_above : MF mX10_above 2 := ⟨by rw [Mw_plain rfl]; exact rin_13 _ (List.mem_of_getElem? (i := 3) rfl), rin_1 _ (List.mem_of_getElem? (i := 5) rfl), by decide +kernel, by decide⟩
theorem fX10_give : MF mX10_give 2 := ⟨by rw [Mw_plain rfl]; exact rin_13 _ (List.mem_of_getElem? (i := 7) rfl), rin_1 _ (List.mem_of_getElem? (i := 5) rfl), by decide +kernel, by decide⟩
theorem fX10_send : MF mX10_send 6 := ⟨by rw [Mw_plain rfl]; exact rin_13 _ (List.mem_of_getElem? (i := 12) rfl), rin_1 _ (List.mem_of_getElem? (i := 5) rfl), by decide +kernel, by decide⟩
theorem fX10_tellTalker : MF mX10_tellTalker 1 := ⟨by rw [Mw_plain rfl]; exact rin_13 _ (List.mem_of_getElem? (i := 18) rfl), rin_1 _ (List.mem_of_getElem? (i := 5) rfl), by decide +kernel, by decide⟩
theorem fL_press : MF mL_press 5 := ⟨by unfold Mw; rw [if_neg (by decide)]; exact rin_13 _ (List.mem_of_getElem? (i := 21) rfl), rin_7 _ (List.mem_of_getElem? (i := 8) rfl), by decide +kernel, by decide⟩
theorem fX9_press : MF mX9_press 3 := ⟨by rw [Mw_plain rfl]; exact rin_14 _ (List.mem_of_getElem? (i := 2) rfl), rin_1 _ (List.mem_of_getElem? (i := 2) rfl), by decide +kernel, by decide⟩
theorem fX9_memberThere : MF mX9_memberThere 2 := ⟨by rw [Mw_plain rfl]; exact rin_14 _ (List.mem_of_getElem? (i := 9) rfl), rin_1 _ (List.mem_of_getElem? (i := 2) rfl), by decide +kernel, by decide⟩
theorem fX9_needState : MF mX9_needState 1 := ⟨by rw [Mw_plain rfl]; exact rin_14 _ (List.mem_of_getElem? (i := 12) rfl), rin_1 _ (List.mem_of_getElem? (i := 2) rfl), by decide +kernel, by decide⟩
theorem fX9_sendRequest : MF mX9_sendRequest 3 := ⟨by rw [Mw_plain rfl]; exact rin_14 _ (List.mem_of_getElem? (i := 18) rfl), rin_1 _ (List.mem_of_getElem? (i := 2) rfl), by decide +kernel, by decide⟩
theorem fX10_press : MF mX10_press 3 := ⟨by rw [Mw_plain rfl]; exact rin_14 _ (List.mem_of_getElem? (i := 23) rfl), rin_1 _ (List.mem_of_getElem? (i := 5) rfl), by decide +kernel, by decide⟩
theorem fX10_ask : MF mX10_ask 2 := ⟨by rw [Mw_plain rfl]; exact rin_15 _ (List.mem_of_getElem? (i := 3) rfl), rin_1 _ (List.mem_of_getElem? (i := 5) rfl), by decide +kernel, by decide⟩
theorem fL_again : MF mL_again 3 := ⟨by unfold Mw; rw [if_neg (by decide)]; exact rin_15 _ (List.mem_of_getElem? (i := 6) rfl), rin_7 _ (List.mem_of_getElem? (i := 8) rfl), by decide +kernel, by decide⟩
theorem fX9_again : MF mX9_again 2 := ⟨by rw [Mw_plain rfl]; exact rin_15 _ (List.mem_of_getElem? (i := 10) rfl), rin_1 _ (List.mem_of_getElem? (i := 2) rfl), by decide +kernel, by decide⟩
theorem fX4_isAsking : MF mX4_isAsking 0 := ⟨by rw [Mw_plain rfl]; exact rin_15 _ (List.mem_of_getElem? (i := 14) rfl), rin_3 _ (List.mem_of_getElem? (i := 3) rfl), by decide +kernel, by decide⟩
theorem fX10_again : MF mX10_again 2 := ⟨by rw [Mw_plain rfl]; exact rin_15 _ (List.mem_of_getElem? (i := 18) rfl), rin_1 _ (List.mem_of_getElem? (i := 5) rfl), by decide +kernel, by decide⟩
theorem fL_release : MF mL_release 3 := ⟨by unfold Mw; rw [if_neg (by decide)]; exact rin_15 _ (List.mem_of_getElem? (i := 21) rfl), rin_7 _ (List.mem_of_getElem? (i := 8) rfl), by decide +kernel, by decide⟩
theorem fX9_release : MF mX9_release 2 := ⟨by rw [Mw_plain rfl]; exact rin_16 _ (List.mem_of_getElem? (i := 1) rfl), rin_1 _ (List.mem_of_getElem? (i := 2) rfl), by decide +kernel, by decide⟩
theorem fX10_release : MF mX10_release 2 := ⟨by rw [Mw_plain rfl]; exact rin_16 _ (List.mem_of_getElem? (i := 5) rfl), rin_1 _ (List.mem_of_getElem? (i := 5) rfl), by decide +kernel, by decide⟩
theorem fL_unit : MF mL_unit 5 := ⟨by unfold Mw; rw [if_neg (by decide)]; exact rin_16 _ (List.mem_of_getElem? (i := 8) rfl), rin_7 _ (List.mem_of_getElem? (i := 8) rfl), by decide +kernel, by decide⟩
theorem fX9_unit : MF mX9_unit 3 := ⟨by rw [Mw_plain rfl]; exact rin_16 _ (List.mem_of_getElem? (i := 13) rfl), rin_1 _ (List.mem_of_getElem? (i := 2) rfl), by decide +kernel, by decide⟩
theorem fX4_isTalking : MF mX4_isTalking 0 := ⟨by rw [Mw_plain rfl]; exact rin_16 _ (List.mem_of_getElem? (i := 21) rfl), rin_3 _ (List.mem_of_getElem? (i := 3) rfl), by decide +kernel, by decide⟩
theorem fX10_unit : MF mX10_unit 3 := ⟨by rw [Mw_plain rfl]; exact rin_17 _ (List.mem_of_getElem? (i := 1) rfl), rin_1 _ (List.mem_of_getElem? (i := 5) rfl), by decide +kernel, by decide⟩
theorem fX9_messages : MF mX9_messages 0 := ⟨by rw [Mw_plain rfl]; exact rin_17 _ (List.mem_of_getElem? (i := 5) rfl), rin_1 _ (List.mem_of_getElem? (i := 2) rfl), by decide +kernel, by decide⟩
theorem fX10_messages : MF mX10_messages 0 := ⟨by rw [Mw_plain rfl]; exact rin_17 _ (List.mem_of_getElem? (i := 10) rfl), rin_1 _ (List.mem_of_getElem? (i := 5) rfl), by decide +kernel, by decide⟩
theorem fL_message : MF mL_message 4 := ⟨by unfold Mw; rw [if_neg (by decide)]; exact rin_17 _ (List.mem_of_getElem? (i := 13) rfl), rin_7 _ (List.mem_of_getElem? (i := 8) rfl), by decide +kernel, by decide⟩
theorem fX9_message : MF mX9_message 2 := ⟨by rw [Mw_plain rfl]; exact rin_17 _ (List.mem_of_getElem? (i := 18) rfl), rin_1 _ (List.mem_of_getElem? (i := 2) rfl), by decide +kernel, by decide⟩
theorem fX9_needMessage : MF mX9_needMessage 1 := ⟨by rw [Mw_plain rfl]; exact rin_17 _ (List.mem_of_getElem? (i := 22) rfl), rin_1 _ (List.mem_of_getElem? (i := 2) rfl), by decide +kernel, by decide⟩
theorem fX9_needIndex : MF mX9_needIndex 2 := ⟨by rw [Mw_plain rfl]; exact rin_18 _ (List.mem_of_getElem? (i := 1) rfl), rin_1 _ (List.mem_of_getElem? (i := 2) rfl), by decide +kernel, by decide⟩
theorem fX6_at : MF mX6_at 1 := ⟨by rw [Mw_plain rfl]; exact rin_18 _ (List.mem_of_getElem? (i := 7) rfl), rin_1 _ (List.mem_of_getElem? (i := 15) rfl), by decide +kernel, by decide⟩
theorem fX5_field : MF mX5_field 1 := ⟨by rw [Mw_plain rfl]; exact rin_18 _ (List.mem_of_getElem? (i := 11) rfl), rin_2 _ (List.mem_of_getElem? (i := 14) rfl), by decide +kernel, by decide⟩
theorem fX10_message : MF mX10_message 2 := ⟨by rw [Mw_plain rfl]; exact rin_18 _ (List.mem_of_getElem? (i := 21) rfl), rin_1 _ (List.mem_of_getElem? (i := 5) rfl), by decide +kernel, by decide⟩
theorem fX10_isMessage : MF mX10_isMessage 1 := ⟨by rw [Mw_plain rfl]; exact rin_19 _ (List.mem_of_getElem? (i := 1) rfl), rin_1 _ (List.mem_of_getElem? (i := 5) rfl), by decide +kernel, by decide⟩
theorem fL_carry : MF mL_carry 2 := ⟨by unfold Mw; rw [if_neg (by decide)]; exact rin_19 _ (List.mem_of_getElem? (i := 4) rfl), rin_7 _ (List.mem_of_getElem? (i := 8) rfl), by decide +kernel, by decide⟩
theorem fX9_carry : MF mX9_carry 1 := ⟨by rw [Mw_plain rfl]; exact rin_19 _ (List.mem_of_getElem? (i := 8) rfl), rin_1 _ (List.mem_of_getElem? (i := 2) rfl), by decide +kernel, by decide⟩
theorem fX6_takeOut : MF mX6_takeOut 1 := ⟨by rw [Mw_plain rfl]; exact rin_19 _ (List.mem_of_getElem? (i := 12) rfl), rin_1 _ (List.mem_of_getElem? (i := 15) rfl), by decide +kernel, by decide⟩
theorem fX9_deliver : MF mX9_deliver 1 := ⟨by rw [Mw_plain rfl]; exact rin_19 _ (List.mem_of_getElem? (i := 20) rfl), rin_1 _ (List.mem_of_getElem? (i := 2) rfl), by decide +kernel, by decide⟩
theorem fX1_hearRequest : MF mX1_hearRequest 4 := ⟨by rw [Mw_plain rfl]; exact rin_20 _ (List.mem_of_getElem? (i := 6) rfl), rin_2 _ (List.mem_of_getElem? (i := 2) rfl), by decide +kernel, by decide⟩
theorem fX1_answerAgain : MF mX1_answerAgain 1 := ⟨by rw [Mw_plain rfl]; exact rin_20 _ (List.mem_of_getElem? (i := 14) rfl), rin_2 _ (List.mem_of_getElem? (i := 2) rfl), by decide +kernel, by decide⟩
theorem fX0_renew : MF mX0_renew 3 := ⟨by rw [Mw_plain rfl]; exact rin_20 _ (List.mem_of_getElem? (i := 19) rfl), rin_4 _ (List.mem_of_getElem? (i := 11) rfl), by decide +kernel, by decide⟩
theorem fX1_enqueue : MF mX1_enqueue 1 := ⟨by rw [Mw_plain rfl]; exact rin_21 _ (List.mem_of_getElem? (i := 3) rfl), rin_2 _ (List.mem_of_getElem? (i := 2) rfl), by decide +kernel, by decide⟩
theorem fX0_isAbove : MF mX0_isAbove 1 := ⟨by rw [Mw_plain rfl]; exact rin_21 _ (List.mem_of_getElem? (i := 7) rfl), rin_4 _ (List.mem_of_getElem? (i := 11) rfl), by decide +kernel, by decide⟩
theorem fX1_revokeIfBelow : MF mX1_revokeIfBelow 2 := ⟨by rw [Mw_plain rfl]; exact rin_21 _ (List.mem_of_getElem? (i := 11) rfl), rin_2 _ (List.mem_of_getElem? (i := 2) rfl), by decide +kernel, by decide⟩
theorem fX1_hearRelease : MF mX1_hearRelease 3 := ⟨by rw [Mw_plain rfl]; exact rin_21 _ (List.mem_of_getElem? (i := 16) rfl), rin_2 _ (List.mem_of_getElem? (i := 2) rfl), by decide +kernel, by decide⟩
theorem fX2_hearGate : MF mX2_hearGate 2 := ⟨by rw [Mw_plain rfl]; exact rin_21 _ (List.mem_of_getElem? (i := 20) rfl), rin_2 _ (List.mem_of_getElem? (i := 4) rfl), by decide +kernel, by decide⟩
theorem fX2_hearUnit : MF mX2_hearUnit 5 := ⟨by rw [Mw_plain rfl]; exact rin_22 _ (List.mem_of_getElem? (i := 2) rfl), rin_2 _ (List.mem_of_getElem? (i := 4) rfl), by decide +kernel, by decide⟩
theorem fX2_lets : MF mX2_lets 3 := ⟨by rw [Mw_plain rfl]; exact rin_22 _ (List.mem_of_getElem? (i := 8) rfl), rin_2 _ (List.mem_of_getElem? (i := 4) rfl), by decide +kernel, by decide⟩
theorem fX1_hearPassed : MF mX1_hearPassed 2 := ⟨by rw [Mw_plain rfl]; exact rin_22 _ (List.mem_of_getElem? (i := 13) rfl), rin_2 _ (List.mem_of_getElem? (i := 2) rfl), by decide +kernel, by decide⟩
theorem fX4_hear : MF mX4_hear 2 := ⟨by rw [Mw_plain rfl]; exact rin_22 _ (List.mem_of_getElem? (i := 17) rfl), rin_3 _ (List.mem_of_getElem? (i := 3) rfl), by decide +kernel, by decide⟩
theorem fX4_hearAnswer : MF mX4_hearAnswer 1 := ⟨by rw [Mw_plain rfl]; exact rin_23 _ (List.mem_of_getElem? (i := 2) rfl), rin_3 _ (List.mem_of_getElem? (i := 3) rfl), by decide +kernel, by decide⟩
theorem fX4_hearTalker : MF mX4_hearTalker 2 := ⟨by rw [Mw_plain rfl]; exact rin_23 _ (List.mem_of_getElem? (i := 11) rfl), rin_3 _ (List.mem_of_getElem? (i := 3) rfl), by decide +kernel, by decide⟩
theorem fX3_hear : MF mX3_hear 4 := ⟨by rw [Mw_plain rfl]; exact rin_23 _ (List.mem_of_getElem? (i := 16) rfl), rin_3 _ (List.mem_of_getElem? (i := 11) rfl), by decide +kernel, by decide⟩
theorem fX3_begin : MF mX3_begin 3 := ⟨by rw [Mw_plain rfl]; exact rin_24 _ (List.mem_of_getElem? (i := 1) rfl), rin_3 _ (List.mem_of_getElem? (i := 11) rfl), by decide +kernel, by decide⟩
theorem fX3_isKept : MF mX3_isKept 1 := ⟨by rw [Mw_plain rfl]; exact rin_24 _ (List.mem_of_getElem? (i := 7) rfl), rin_3 _ (List.mem_of_getElem? (i := 11) rfl), by decide +kernel, by decide⟩
theorem fX3_bitOf : MF mX3_bitOf 1 := ⟨by rw [Mw_plain rfl]; exact rin_24 _ (List.mem_of_getElem? (i := 10) rfl), rin_3 _ (List.mem_of_getElem? (i := 11) rfl), by decide +kernel, by decide⟩
theorem fX3_slotOf : MF mX3_slotOf 1 := ⟨by rw [Mw_plain rfl]; exact rin_24 _ (List.mem_of_getElem? (i := 13) rfl), rin_3 _ (List.mem_of_getElem? (i := 11) rfl), by decide +kernel, by decide⟩
theorem fX10_carry : MF mX10_carry 1 := ⟨by rw [Mw_plain rfl]; exact rin_24 _ (List.mem_of_getElem? (i := 17) rfl), rin_1 _ (List.mem_of_getElem? (i := 5) rfl), by decide +kernel, by decide⟩
theorem fX10_comes : MF mX10_comes 2 := ⟨by rw [Mw_plain rfl]; exact rin_24 _ (List.mem_of_getElem? (i := 21) rfl), rin_1 _ (List.mem_of_getElem? (i := 5) rfl), by decide +kernel, by decide⟩
theorem fX10_takeOut : MF mX10_takeOut 1 := ⟨by rw [Mw_plain rfl]; exact rin_25 _ (List.mem_of_getElem? (i := 1) rfl), rin_1 _ (List.mem_of_getElem? (i := 5) rfl), by decide +kernel, by decide⟩
theorem fX10_requested : MF mX10_requested 4 := ⟨by rw [Mw_plain rfl]; exact rin_25 _ (List.mem_of_getElem? (i := 5) rfl), rin_1 _ (List.mem_of_getElem? (i := 5) rfl), by decide +kernel, by decide⟩
theorem fX10_waitCount : MF mX10_waitCount 1 := ⟨by rw [Mw_plain rfl]; exact rin_25 _ (List.mem_of_getElem? (i := 10) rfl), rin_1 _ (List.mem_of_getElem? (i := 5) rfl), by decide +kernel, by decide⟩
theorem fX10_released : MF mX10_released 3 := ⟨by rw [Mw_plain rfl]; exact rin_25 _ (List.mem_of_getElem? (i := 14) rfl), rin_1 _ (List.mem_of_getElem? (i := 5) rfl), by decide +kernel, by decide⟩
theorem fX10_gateComes : MF mX10_gateComes 3 := ⟨by rw [Mw_plain rfl]; exact rin_25 _ (List.mem_of_getElem? (i := 18) rfl), rin_1 _ (List.mem_of_getElem? (i := 5) rfl), by decide +kernel, by decide⟩
theorem fX10_unitComes : MF mX10_unitComes 5 := ⟨by rw [Mw_plain rfl]; exact rin_25 _ (List.mem_of_getElem? (i := 22) rfl), rin_1 _ (List.mem_of_getElem? (i := 5) rfl), by decide +kernel, by decide⟩
theorem fX10_memberHears : MF mX10_memberHears 6 := ⟨by rw [Mw_plain rfl]; exact rin_26 _ (List.mem_of_getElem? (i := 2) rfl), rin_1 _ (List.mem_of_getElem? (i := 5) rfl), by decide +kernel, by decide⟩
theorem fX10_listen : MF mX10_listen 4 := ⟨by rw [Mw_plain rfl]; exact rin_26 _ (List.mem_of_getElem? (i := 6) rfl), rin_1 _ (List.mem_of_getElem? (i := 5) rfl), by decide +kernel, by decide⟩
theorem fL_twice : MF mL_twice 2 := ⟨by unfold Mw; rw [if_neg (by decide)]; exact rin_26 _ (List.mem_of_getElem? (i := 9) rfl), rin_7 _ (List.mem_of_getElem? (i := 8) rfl), by decide +kernel, by decide⟩
theorem fX9_twice : MF mX9_twice 1 := ⟨by rw [Mw_plain rfl]; exact rin_26 _ (List.mem_of_getElem? (i := 13) rfl), rin_1 _ (List.mem_of_getElem? (i := 2) rfl), by decide +kernel, by decide⟩
theorem fX10_twice : MF mX10_twice 1 := ⟨by rw [Mw_plain rfl]; exact rin_26 _ (List.mem_of_getElem? (i := 17) rfl), rin_1 _ (List.mem_of_getElem? (i := 5) rfl), by decide +kernel, by decide⟩
theorem fL_drop : MF mL_drop 2 := ⟨by unfold Mw; rw [if_neg (by decide)]; exact rin_26 _ (List.mem_of_getElem? (i := 20) rfl), rin_7 _ (List.mem_of_getElem? (i := 8) rfl), by decide +kernel, by decide⟩
theorem fX9_drop : MF mX9_drop 1 := ⟨by rw [Mw_plain rfl]; exact rin_27 _ (List.mem_of_getElem? (i := 0) rfl), rin_1 _ (List.mem_of_getElem? (i := 2) rfl), by decide +kernel, by decide⟩
theorem fX10_drop : MF mX10_drop 1 := ⟨by rw [Mw_plain rfl]; exact rin_27 _ (List.mem_of_getElem? (i := 4) rfl), rin_1 _ (List.mem_of_getElem? (i := 5) rfl), by decide +kernel, by decide⟩
theorem fL_run : MF mL_run 3 := ⟨by unfold Mw; rw [if_neg (by decide)]; exact rin_27 _ (List.mem_of_getElem? (i := 7) rfl), rin_7 _ (List.mem_of_getElem? (i := 8) rfl), by decide +kernel, by decide⟩
theorem fX9_run : MF mX9_run 1 := ⟨by rw [Mw_plain rfl]; exact rin_27 _ (List.mem_of_getElem? (i := 11) rfl), rin_1 _ (List.mem_of_getElem? (i := 2) rfl), by decide +kernel, by decide⟩
theorem fX10_run : MF mX10_run 1 := ⟨by rw [Mw_plain rfl]; exact rin_27 _ (List.mem_of_getElem? (i := 15) rfl), rin_1 _ (List.mem_of_getElem? (i := 5) rfl), by decide +kernel, by decide⟩
theorem fX9_tick : MF mX9_tick 0 := ⟨by rw [Mw_plain rfl]; exact rin_27 _ (List.mem_of_getElem? (i := 19) rfl), rin_1 _ (List.mem_of_getElem? (i := 2) rfl), by decide +kernel, by decide⟩
theorem fX1_passTime : MF mX1_passTime 1 := ⟨by rw [Mw_plain rfl]; exact rin_27 _ (List.mem_of_getElem? (i := 23) rfl), rin_2 _ (List.mem_of_getElem? (i := 2) rfl), by decide +kernel, by decide⟩
theorem fX1_isOver : MF mX1_isOver 1 := ⟨by rw [Mw_plain rfl]; exact rin_28 _ (List.mem_of_getElem? (i := 3) rfl), rin_2 _ (List.mem_of_getElem? (i := 2) rfl), by decide +kernel, by decide⟩
theorem fX7_play : MF mX7_play 1 := ⟨by rw [Mw_plain rfl]; exact rin_28 _ (List.mem_of_getElem? (i := 10) rfl), rin_2 _ (List.mem_of_getElem? (i := 0) rfl), by decide +kernel, by decide⟩
theorem fX3_play : MF mX3_play 1 := ⟨by rw [Mw_plain rfl]; exact rin_28 _ (List.mem_of_getElem? (i := 15) rfl), rin_3 _ (List.mem_of_getElem? (i := 11) rfl), by decide +kernel, by decide⟩
theorem fX3_playUnit : MF mX3_playUnit 0 := ⟨by rw [Mw_plain rfl]; exact rin_28 _ (List.mem_of_getElem? (i := 19) rfl), rin_3 _ (List.mem_of_getElem? (i := 11) rfl), by decide +kernel, by decide⟩
theorem fX3_addToSum : MF mX3_addToSum 1 := ⟨by rw [Mw_plain rfl]; exact rin_29 _ (List.mem_of_getElem? (i := 0) rfl), rin_3 _ (List.mem_of_getElem? (i := 11) rfl), by decide +kernel, by decide⟩
theorem fX3_playGap : MF mX3_playGap 0 := ⟨by rw [Mw_plain rfl]; exact rin_29 _ (List.mem_of_getElem? (i := 5) rfl), rin_3 _ (List.mem_of_getElem? (i := 11) rfl), by decide +kernel, by decide⟩
theorem fX10_tick : MF mX10_tick 0 := ⟨by rw [Mw_plain rfl]; exact rin_29 _ (List.mem_of_getElem? (i := 10) rfl), rin_1 _ (List.mem_of_getElem? (i := 5) rfl), by decide +kernel, by decide⟩
theorem fX10_serverTick : MF mX10_serverTick 1 := ⟨by rw [Mw_plain rfl]; exact rin_29 _ (List.mem_of_getElem? (i := 14) rfl), rin_1 _ (List.mem_of_getElem? (i := 5) rfl), by decide +kernel, by decide⟩
theorem fX10_play : MF mX10_play 1 := ⟨by rw [Mw_plain rfl]; exact rin_29 _ (List.mem_of_getElem? (i := 18) rfl), rin_1 _ (List.mem_of_getElem? (i := 5) rfl), by decide +kernel, by decide⟩
theorem fL_server : MF mL_server 4 := ⟨by unfold Mw; rw [if_neg (by decide)]; exact rin_29 _ (List.mem_of_getElem? (i := 21) rfl), rin_7 _ (List.mem_of_getElem? (i := 8) rfl), by decide +kernel, by decide⟩
theorem fX9_server : MF mX9_server 2 := ⟨by rw [Mw_plain rfl]; exact rin_30 _ (List.mem_of_getElem? (i := 1) rfl), rin_1 _ (List.mem_of_getElem? (i := 2) rfl), by decide +kernel, by decide⟩
theorem fX1_field : MF mX1_field 1 := ⟨by rw [Mw_plain rfl]; exact rin_30 _ (List.mem_of_getElem? (i := 5) rfl), rin_2 _ (List.mem_of_getElem? (i := 2) rfl), by decide +kernel, by decide⟩
theorem fX10_server : MF mX10_server 2 := ⟨by rw [Mw_plain rfl]; exact rin_30 _ (List.mem_of_getElem? (i := 9) rfl), rin_1 _ (List.mem_of_getElem? (i := 5) rfl), by decide +kernel, by decide⟩
theorem fL_waiting : MF mL_waiting 4 := ⟨by unfold Mw; rw [if_neg (by decide)]; exact rin_30 _ (List.mem_of_getElem? (i := 12) rfl), rin_7 _ (List.mem_of_getElem? (i := 8) rfl), by decide +kernel, by decide⟩
theorem fX9_waiting : MF mX9_waiting 2 := ⟨by rw [Mw_plain rfl]; exact rin_30 _ (List.mem_of_getElem? (i := 16) rfl), rin_1 _ (List.mem_of_getElem? (i := 2) rfl), by decide +kernel, by decide⟩
theorem fX10_waiting : MF mX10_waiting 2 := ⟨by rw [Mw_plain rfl]; exact rin_30 _ (List.mem_of_getElem? (i := 22) rfl), rin_1 _ (List.mem_of_getElem? (i := 5) rfl), by decide +kernel, by decide⟩
theorem fL_relay : MF mL_relay 4 := ⟨by unfold Mw; rw [if_neg (by decide)]; exact rin_31 _ (List.mem_of_getElem? (i := 1) rfl), rin_7 _ (List.mem_of_getElem? (i := 8) rfl), by decide +kernel, by decide⟩
theorem fX9_relay : MF mX9_relay 2 := ⟨by rw [Mw_plain rfl]; exact rin_31 _ (List.mem_of_getElem? (i := 5) rfl), rin_1 _ (List.mem_of_getElem? (i := 2) rfl), by decide +kernel, by decide⟩
theorem fX2_field : MF mX2_field 1 := ⟨by rw [Mw_plain rfl]; exact rin_31 _ (List.mem_of_getElem? (i := 9) rfl), rin_2 _ (List.mem_of_getElem? (i := 4) rfl), by decide +kernel, by decide⟩
theorem fX10_relay : MF mX10_relay 2 := ⟨by rw [Mw_plain rfl]; exact rin_31 _ (List.mem_of_getElem? (i := 13) rfl), rin_1 _ (List.mem_of_getElem? (i := 5) rfl), by decide +kernel, by decide⟩
theorem fL_about : MF mL_about 5 := ⟨by unfold Mw; rw [if_neg (by decide)]; exact rin_31 _ (List.mem_of_getElem? (i := 16) rfl), rin_7 _ (List.mem_of_getElem? (i := 8) rfl), by decide +kernel, by decide⟩
theorem fX9_about : MF mX9_about 3 := ⟨by rw [Mw_plain rfl]; exact rin_31 _ (List.mem_of_getElem? (i := 20) rfl), rin_1 _ (List.mem_of_getElem? (i := 2) rfl), by decide +kernel, by decide⟩
theorem fX4_field : MF mX4_field 1 := ⟨by rw [Mw_plain rfl]; exact rin_32 _ (List.mem_of_getElem? (i := 1) rfl), rin_3 _ (List.mem_of_getElem? (i := 3) rfl), by decide +kernel, by decide⟩
theorem fX3_field : MF mX3_field 1 := ⟨by rw [Mw_plain rfl]; exact rin_32 _ (List.mem_of_getElem? (i := 6) rfl), rin_3 _ (List.mem_of_getElem? (i := 11) rfl), by decide +kernel, by decide⟩
theorem fX10_about : MF mX10_about 3 := ⟨by rw [Mw_plain rfl]; exact rin_32 _ (List.mem_of_getElem? (i := 10) rfl), rin_1 _ (List.mem_of_getElem? (i := 5) rfl), by decide +kernel, by decide⟩
theorem fX10_aboutSpurt : MF mX10_aboutSpurt 2 := ⟨by rw [Mw_plain rfl]; exact rin_32 _ (List.mem_of_getElem? (i := 14) rfl), rin_1 _ (List.mem_of_getElem? (i := 5) rfl), by decide +kernel, by decide⟩
theorem fX9_lost : MF mX9_lost 0 := ⟨by rw [Mw_plain rfl]; exact rin_32 _ (List.mem_of_getElem? (i := 18) rfl), rin_1 _ (List.mem_of_getElem? (i := 2) rfl), by decide +kernel, by decide⟩
theorem fX10_lost : MF mX10_lost 0 := ⟨by rw [Mw_plain rfl]; exact rin_32 _ (List.mem_of_getElem? (i := 23) rfl), rin_1 _ (List.mem_of_getElem? (i := 5) rfl), by decide +kernel, by decide⟩
theorem fp_RX0_7 : FP RX0 7 0 0 false .int := ⟨_, rfl, by decide, rin_20 _ (List.mem_of_getElem? (i := 20) rfl), rfl, by decide +kernel, rfl⟩
theorem fp_RX0_13 : FP RX0 13 0 1 false .boolean := ⟨_, rfl, by decide, rin_20 _ (List.mem_of_getElem? (i := 21) rfl), rfl, by decide +kernel, rfl⟩
theorem fl_RX0_17 : FL RX0 17 0 2 := ⟨_, rfl, by decide, rin_20 _ (List.mem_of_getElem? (i := 22) rfl)⟩
theorem fp_RX0_17 : FP RX0 17 0 2 false .boolean := ⟨_, rfl, by decide, rin_20 _ (List.mem_of_getElem? (i := 22) rfl), rfl, by decide +kernel, rfl⟩
theorem fl_RX0_20 : FL RX0 20 0 3 := ⟨_, rfl, by decide, rin_20 _ (List.mem_of_getElem? (i := 23) rfl)⟩
theorem fp_RX0_20 : FP RX0 20 0 3 false .int := ⟨_, rfl, by decide, rin_20 _ (List.mem_of_getElem? (i := 23) rfl), rfl, by decide +kernel, rfl⟩
theorem fl_RX1_12 : FL RX1 12 1 1 := ⟨_, rfl, by decide, rin_4 _ (List.mem_of_getElem? (i := 0) rfl)⟩
theorem fp_RX1_12 : FP RX1 12 1 1 true (.object "TalkNet$Rules") := ⟨_, rfl, by decide, rin_4 _ (List.mem_of_getElem? (i := 0) rfl), rfl, by decide +kernel, rfl⟩
theorem fl_RX1_18 : FL RX1 18 1 2 := ⟨_, rfl, by decide, rin_4 _ (List.mem_of_getElem? (i := 1) rfl)⟩
theorem fp_RX1_18 : FP RX1 18 1 2 true (.object "TalkNet$Rules") := ⟨_, rfl, by decide, rin_4 _ (List.mem_of_getElem? (i := 1) rfl), rfl, by decide +kernel, rfl⟩
theorem fl_RX1_21 : FL RX1 21 1 4 := ⟨_, rfl, by decide, rin_4 _ (List.mem_of_getElem? (i := 2) rfl)⟩
theorem fp_RX1_21 : FP RX1 21 1 4 true (.array .int) := ⟨_, rfl, by decide, rin_4 _ (List.mem_of_getElem? (i := 2) rfl), rfl, by decide +kernel, rfl⟩
theorem fl_RX1_25 : FL RX1 25 1 7 := ⟨_, rfl, by decide, rin_4 _ (List.mem_of_getElem? (i := 3) rfl)⟩
theorem fp_RX1_25 : FP RX1 25 1 7 false .int := ⟨_, rfl, by decide, rin_4 _ (List.mem_of_getElem? (i := 3) rfl), rfl, by decide +kernel, rfl⟩
theorem fl_RX1_29 : FL RX1 29 1 8 := ⟨_, rfl, by decide, rin_4 _ (List.mem_of_getElem? (i := 4) rfl)⟩
theorem fp_RX1_29 : FP RX1 29 1 8 false .int := ⟨_, rfl, by decide, rin_4 _ (List.mem_of_getElem? (i := 4) rfl), rfl, by decide +kernel, rfl⟩
theorem fl_RX1_32 : FL RX1 32 1 9 := ⟨_, rfl, by decide, rin_4 _ (List.mem_of_getElem? (i := 5) rfl)⟩
theorem fp_RX1_32 : FP RX1 32 1 9 false .int := ⟨_, rfl, by decide, rin_4 _ (List.mem_of_getElem? (i := 5) rfl), rfl, by decide +kernel, rfl⟩
theorem fl_RX1_35 : FL RX1 35 1 10 := ⟨_, rfl, by decide, rin_4 _ (List.mem_of_getElem? (i := 6) rfl)⟩
theorem fp_RX1_35 : FP RX1 35 1 10 false .int := ⟨_, rfl, by decide, rin_4 _ (List.mem_of_getElem? (i := 6) rfl), rfl, by decide +kernel, rfl⟩
theorem fl_RX1_38 : FL RX1 38 1 0 := ⟨_, rfl, by decide, rin_4 _ (List.mem_of_getElem? (i := 7) rfl)⟩
theorem fp_RX1_38 : FP RX1 38 1 0 true (.object "TalkNet$Party") := ⟨_, rfl, by decide, rin_4 _ (List.mem_of_getElem? (i := 7) rfl), rfl, by decide +kernel, rfl⟩
theorem fl_RX1_44 : FL RX1 44 1 3 := ⟨_, rfl, by decide, rin_4 _ (List.mem_of_getElem? (i := 9) rfl)⟩
theorem fp_RX1_44 : FP RX1 44 1 3 true (.array (.object "TalkNet$Claim")) := ⟨_, rfl, by decide, rin_4 _ (List.mem_of_getElem? (i := 9) rfl), rfl, by decide +kernel, rfl⟩
theorem fl_RX1_49 : FL RX1 49 7 2 := ⟨_, rfl, by decide, rin_20 _ (List.mem_of_getElem? (i := 7) rfl)⟩
theorem fl_RX1_55 : FL RX1 55 4 0 := ⟨_, rfl, by decide, rin_20 _ (List.mem_of_getElem? (i := 8) rfl)⟩
theorem fl_RX1_61 : FL RX1 61 0 0 := ⟨_, rfl, by decide, rin_11 _ (List.mem_of_getElem? (i := 1) rfl)⟩
theorem fl_RX1_72 : FL RX1 72 4 1 := ⟨_, rfl, by decide, rin_20 _ (List.mem_of_getElem? (i := 9) rfl)⟩
theorem fl_RX1_79 : FL RX1 79 1 5 := ⟨_, rfl, by decide, rin_10 _ (List.mem_of_getElem? (i := 11) rfl)⟩
theorem fp_RX1_79 : FP RX1 79 1 5 false .int := ⟨_, rfl, by decide, rin_10 _ (List.mem_of_getElem? (i := 11) rfl), rfl, by decide +kernel, rfl⟩
theorem fl_RX1_85 : FL RX1 85 0 1 := ⟨_, rfl, by decide, rin_20 _ (List.mem_of_getElem? (i := 10) rfl)⟩
theorem fp_RX1_85 : FP RX1 85 0 1 false .boolean := ⟨_, rfl, by decide, rin_20 _ (List.mem_of_getElem? (i := 10) rfl), rfl, by decide +kernel, rfl⟩
theorem fl_RX1_106 : FL RX1 106 1 6 := ⟨_, rfl, by decide, rin_10 _ (List.mem_of_getElem? (i := 12) rfl)⟩
theorem fp_RX1_106 : FP RX1 106 1 6 false .int := ⟨_, rfl, by decide, rin_10 _ (List.mem_of_getElem? (i := 12) rfl), rfl, by decide +kernel, rfl⟩
theorem fl_RX1_117 : FL RX1 117 8 3 := ⟨_, rfl, by decide, rin_28 _ (List.mem_of_getElem? (i := 4) rfl)⟩
theorem fl_RX1_120 : FL RX1 120 8 1 := ⟨_, rfl, by decide, rin_28 _ (List.mem_of_getElem? (i := 5) rfl)⟩
theorem fl_RX1_123 : FL RX1 123 8 2 := ⟨_, rfl, by decide, rin_28 _ (List.mem_of_getElem? (i := 6) rfl)⟩
theorem fl_RX1_134 : FL RX1 134 8 0 := ⟨_, rfl, by decide, rin_21 _ (List.mem_of_getElem? (i := 12) rfl)⟩
theorem fl_RX10_7 : FL RX10 7 10 4 := ⟨_, rfl, by decide, rin_5 _ (List.mem_of_getElem? (i := 8) rfl)⟩
theorem fp_RX10_7 : FP RX10 7 10 4 true (.array .int) := ⟨_, rfl, by decide, rin_5 _ (List.mem_of_getElem? (i := 8) rfl), rfl, by decide +kernel, rfl⟩
theorem fl_RX10_13 : FL RX10 13 10 5 := ⟨_, rfl, by decide, rin_5 _ (List.mem_of_getElem? (i := 10) rfl)⟩
theorem fp_RX10_13 : FP RX10 13 10 5 true (.array .boolean) := ⟨_, rfl, by decide, rin_5 _ (List.mem_of_getElem? (i := 10) rfl), rfl, by decide +kernel, rfl⟩
theorem fl_RX10_17 : FL RX10 17 10 6 := ⟨_, rfl, by decide, rin_5 _ (List.mem_of_getElem? (i := 11) rfl)⟩
theorem fp_RX10_17 : FP RX10 17 10 6 true (.array .int) := ⟨_, rfl, by decide, rin_5 _ (List.mem_of_getElem? (i := 11) rfl), rfl, by decide +kernel, rfl⟩
theorem fl_RX10_20 : FL RX10 20 10 7 := ⟨_, rfl, by decide, rin_5 _ (List.mem_of_getElem? (i := 12) rfl)⟩
theorem fp_RX10_20 : FP RX10 20 10 7 true (.array .int) := ⟨_, rfl, by decide, rin_5 _ (List.mem_of_getElem? (i := 12) rfl), rfl, by decide +kernel, rfl⟩
theorem fl_RX10_23 : FL RX10 23 10 8 := ⟨_, rfl, by decide, rin_5 _ (List.mem_of_getElem? (i := 13) rfl)⟩
theorem fp_RX10_23 : FP RX10 23 10 8 true (.array .int) := ⟨_, rfl, by decide, rin_5 _ (List.mem_of_getElem? (i := 13) rfl), rfl, by decide +kernel, rfl⟩
theorem fl_RX10_26 : FL RX10 26 10 9 := ⟨_, rfl, by decide, rin_5 _ (List.mem_of_getElem? (i := 14) rfl)⟩
theorem fp_RX10_26 : FP RX10 26 10 9 true (.array .boolean) := ⟨_, rfl, by decide, rin_5 _ (List.mem_of_getElem? (i := 14) rfl), rfl, by decide +kernel, rfl⟩
theorem fl_RX10_29 : FL RX10 29 10 10 := ⟨_, rfl, by decide, rin_5 _ (List.mem_of_getElem? (i := 15) rfl)⟩
theorem fp_RX10_29 : FP RX10 29 10 10 true (.array .int) := ⟨_, rfl, by decide, rin_5 _ (List.mem_of_getElem? (i := 15) rfl), rfl, by decide +kernel, rfl⟩
theorem fl_RX10_32 : FL RX10 32 10 11 := ⟨_, rfl, by decide, rin_5 _ (List.mem_of_getElem? (i := 16) rfl)⟩
theorem fp_RX10_32 : FP RX10 32 10 11 true (.array .int) := ⟨_, rfl, by decide, rin_5 _ (List.mem_of_getElem? (i := 16) rfl), rfl, by decide +kernel, rfl⟩
theorem fl_RX10_35 : FL RX10 35 10 12 := ⟨_, rfl, by decide, rin_5 _ (List.mem_of_getElem? (i := 17) rfl)⟩
theorem fp_RX10_35 : FP RX10 35 10 12 true (.array .int) := ⟨_, rfl, by decide, rin_5 _ (List.mem_of_getElem? (i := 17) rfl), rfl, by decide +kernel, rfl⟩
theorem fl_RX10_38 : FL RX10 38 10 13 := ⟨_, rfl, by decide, rin_5 _ (List.mem_of_getElem? (i := 18) rfl)⟩
theorem fp_RX10_38 : FP RX10 38 10 13 true (.array .int) := ⟨_, rfl, by decide, rin_5 _ (List.mem_of_getElem? (i := 18) rfl), rfl, by decide +kernel, rfl⟩
theorem fl_RX10_41 : FL RX10 41 10 14 := ⟨_, rfl, by decide, rin_5 _ (List.mem_of_getElem? (i := 19) rfl)⟩
theorem fp_RX10_41 : FP RX10 41 10 14 true (.array .int) := ⟨_, rfl, by decide, rin_5 _ (List.mem_of_getElem? (i := 19) rfl), rfl, by decide +kernel, rfl⟩
theorem fl_RX10_44 : FL RX10 44 10 15 := ⟨_, rfl, by decide, rin_5 _ (List.mem_of_getElem? (i := 20) rfl)⟩
theorem fp_RX10_44 : FP RX10 44 10 15 true (.array .int) := ⟨_, rfl, by decide, rin_5 _ (List.mem_of_getElem? (i := 20) rfl), rfl, by decide +kernel, rfl⟩
theorem fl_RX10_47 : FL RX10 47 10 16 := ⟨_, rfl, by decide, rin_5 _ (List.mem_of_getElem? (i := 21) rfl)⟩
theorem fp_RX10_47 : FP RX10 47 10 16 true (.array .boolean) := ⟨_, rfl, by decide, rin_5 _ (List.mem_of_getElem? (i := 21) rfl), rfl, by decide +kernel, rfl⟩
theorem fl_RX10_50 : FL RX10 50 10 17 := ⟨_, rfl, by decide, rin_5 _ (List.mem_of_getElem? (i := 22) rfl)⟩
theorem fp_RX10_50 : FP RX10 50 10 17 true (.array .int) := ⟨_, rfl, by decide, rin_5 _ (List.mem_of_getElem? (i := 22) rfl), rfl, by decide +kernel, rfl⟩
theorem fl_RX10_53 : FL RX10 53 10 18 := ⟨_, rfl, by decide, rin_5 _ (List.mem_of_getElem? (i := 23) rfl)⟩
theorem fp_RX10_53 : FP RX10 53 10 18 true (.array .int) := ⟨_, rfl, by decide, rin_5 _ (List.mem_of_getElem? (i := 23) rfl), rfl, by decide +kernel, rfl⟩
theorem fl_RX10_56 : FL RX10 56 10 19 := ⟨_, rfl, by decide, rin_6 _ (List.mem_of_getElem? (i := 0) rfl)⟩
theorem fp_RX10_56 : FP RX10 56 10 19 true (.array .int) := ⟨_, rfl, by decide, rin_6 _ (List.mem_of_getElem? (i := 0) rfl), rfl, by decide +kernel, rfl⟩
theorem fl_RX10_59 : FL RX10 59 10 20 := ⟨_, rfl, by decide, rin_6 _ (List.mem_of_getElem? (i := 1) rfl)⟩
theorem fp_RX10_59 : FP RX10 59 10 20 true (.array .int) := ⟨_, rfl, by decide, rin_6 _ (List.mem_of_getElem? (i := 1) rfl), rfl, by decide +kernel, rfl⟩
theorem fl_RX10_62 : FL RX10 62 10 21 := ⟨_, rfl, by decide, rin_6 _ (List.mem_of_getElem? (i := 2) rfl)⟩
theorem fp_RX10_62 : FP RX10 62 10 21 true (.array .int) := ⟨_, rfl, by decide, rin_6 _ (List.mem_of_getElem? (i := 2) rfl), rfl, by decide +kernel, rfl⟩
theorem fl_RX10_65 : FL RX10 65 10 22 := ⟨_, rfl, by decide, rin_6 _ (List.mem_of_getElem? (i := 3) rfl)⟩
theorem fp_RX10_65 : FP RX10 65 10 22 true (.array .int) := ⟨_, rfl, by decide, rin_6 _ (List.mem_of_getElem? (i := 3) rfl), rfl, by decide +kernel, rfl⟩
theorem fl_RX10_68 : FL RX10 68 10 23 := ⟨_, rfl, by decide, rin_6 _ (List.mem_of_getElem? (i := 4) rfl)⟩
theorem fp_RX10_68 : FP RX10 68 10 23 true (.array .int) := ⟨_, rfl, by decide, rin_6 _ (List.mem_of_getElem? (i := 4) rfl), rfl, by decide +kernel, rfl⟩
theorem fl_RX10_71 : FL RX10 71 10 24 := ⟨_, rfl, by decide, rin_6 _ (List.mem_of_getElem? (i := 5) rfl)⟩
theorem fp_RX10_71 : FP RX10 71 10 24 true (.array .boolean) := ⟨_, rfl, by decide, rin_6 _ (List.mem_of_getElem? (i := 5) rfl), rfl, by decide +kernel, rfl⟩
theorem fl_RX10_74 : FL RX10 74 10 25 := ⟨_, rfl, by decide, rin_6 _ (List.mem_of_getElem? (i := 6) rfl)⟩
theorem fp_RX10_74 : FP RX10 74 10 25 true (.array .int) := ⟨_, rfl, by decide, rin_6 _ (List.mem_of_getElem? (i := 6) rfl), rfl, by decide +kernel, rfl⟩
theorem fl_RX10_77 : FL RX10 77 10 26 := ⟨_, rfl, by decide, rin_6 _ (List.mem_of_getElem? (i := 7) rfl)⟩
theorem fp_RX10_77 : FP RX10 77 10 26 true (.array .boolean) := ⟨_, rfl, by decide, rin_6 _ (List.mem_of_getElem? (i := 7) rfl), rfl, by decide +kernel, rfl⟩
theorem fl_RX10_80 : FL RX10 80 10 27 := ⟨_, rfl, by decide, rin_6 _ (List.mem_of_getElem? (i := 8) rfl)⟩
theorem fp_RX10_80 : FP RX10 80 10 27 true (.array .int) := ⟨_, rfl, by decide, rin_6 _ (List.mem_of_getElem? (i := 8) rfl), rfl, by decide +kernel, rfl⟩
theorem fl_RX10_83 : FL RX10 83 10 28 := ⟨_, rfl, by decide, rin_6 _ (List.mem_of_getElem? (i := 9) rfl)⟩
theorem fp_RX10_83 : FP RX10 83 10 28 true (.array .int) := ⟨_, rfl, by decide, rin_6 _ (List.mem_of_getElem? (i := 9) rfl), rfl, by decide +kernel, rfl⟩
theorem fl_RX10_86 : FL RX10 86 10 29 := ⟨_, rfl, by decide, rin_6 _ (List.mem_of_getElem? (i := 10) rfl)⟩
theorem fp_RX10_86 : FP RX10 86 10 29 true (.array .int) := ⟨_, rfl, by decide, rin_6 _ (List.mem_of_getElem? (i := 10) rfl), rfl, by decide +kernel, rfl⟩
theorem fl_RX10_89 : FL RX10 89 10 30 := ⟨_, rfl, by decide, rin_6 _ (List.mem_of_getElem? (i := 11) rfl)⟩
theorem fp_RX10_89 : FP RX10 89 10 30 true (.array .boolean) := ⟨_, rfl, by decide, rin_6 _ (List.mem_of_getElem? (i := 11) rfl), rfl, by decide +kernel, rfl⟩
theorem fl_RX10_92 : FL RX10 92 10 31 := ⟨_, rfl, by decide, rin_6 _ (List.mem_of_getElem? (i := 12) rfl)⟩
theorem fp_RX10_92 : FP RX10 92 10 31 true (.array .int) := ⟨_, rfl, by decide, rin_6 _ (List.mem_of_getElem? (i := 12) rfl), rfl, by decide +kernel, rfl⟩
theorem fl_RX10_95 : FL RX10 95 10 32 := ⟨_, rfl, by decide, rin_6 _ (List.mem_of_getElem? (i := 13) rfl)⟩
theorem fp_RX10_95 : FP RX10 95 10 32 true (.array .int) := ⟨_, rfl, by decide, rin_6 _ (List.mem_of_getElem? (i := 13) rfl), rfl, by decide +kernel, rfl⟩
theorem fl_RX10_98 : FL RX10 98 10 33 := ⟨_, rfl, by decide, rin_6 _ (List.mem_of_getElem? (i := 14) rfl)⟩
theorem fp_RX10_98 : FP RX10 98 10 33 true (.array .int) := ⟨_, rfl, by decide, rin_6 _ (List.mem_of_getElem? (i := 14) rfl), rfl, by decide +kernel, rfl⟩
theorem fl_RX10_101 : FL RX10 101 10 34 := ⟨_, rfl, by decide, rin_6 _ (List.mem_of_getElem? (i := 15) rfl)⟩
theorem fp_RX10_101 : FP RX10 101 10 34 true (.array .int) := ⟨_, rfl, by decide, rin_6 _ (List.mem_of_getElem? (i := 15) rfl), rfl, by decide +kernel, rfl⟩
theorem fl_RX10_104 : FL RX10 104 10 35 := ⟨_, rfl, by decide, rin_6 _ (List.mem_of_getElem? (i := 16) rfl)⟩
theorem fp_RX10_104 : FP RX10 104 10 35 true (.array .int) := ⟨_, rfl, by decide, rin_6 _ (List.mem_of_getElem? (i := 16) rfl), rfl, by decide +kernel, rfl⟩
theorem fl_RX10_107 : FL RX10 107 10 36 := ⟨_, rfl, by decide, rin_6 _ (List.mem_of_getElem? (i := 17) rfl)⟩
theorem fp_RX10_107 : FP RX10 107 10 36 true (.array .int) := ⟨_, rfl, by decide, rin_6 _ (List.mem_of_getElem? (i := 17) rfl), rfl, by decide +kernel, rfl⟩
theorem fl_RX10_110 : FL RX10 110 10 37 := ⟨_, rfl, by decide, rin_6 _ (List.mem_of_getElem? (i := 18) rfl)⟩
theorem fp_RX10_110 : FP RX10 110 10 37 true (.array .int) := ⟨_, rfl, by decide, rin_6 _ (List.mem_of_getElem? (i := 18) rfl), rfl, by decide +kernel, rfl⟩
theorem fl_RX10_113 : FL RX10 113 10 38 := ⟨_, rfl, by decide, rin_6 _ (List.mem_of_getElem? (i := 19) rfl)⟩
theorem fp_RX10_113 : FP RX10 113 10 38 true (.array .int) := ⟨_, rfl, by decide, rin_6 _ (List.mem_of_getElem? (i := 19) rfl), rfl, by decide +kernel, rfl⟩
theorem fl_RX10_116 : FL RX10 116 10 40 := ⟨_, rfl, by decide, rin_6 _ (List.mem_of_getElem? (i := 20) rfl)⟩
theorem fp_RX10_116 : FP RX10 116 10 40 true (.array .int) := ⟨_, rfl, by decide, rin_6 _ (List.mem_of_getElem? (i := 20) rfl), rfl, by decide +kernel, rfl⟩
theorem fl_RX10_119 : FL RX10 119 10 41 := ⟨_, rfl, by decide, rin_6 _ (List.mem_of_getElem? (i := 21) rfl)⟩
theorem fp_RX10_119 : FP RX10 119 10 41 true (.array .boolean) := ⟨_, rfl, by decide, rin_6 _ (List.mem_of_getElem? (i := 21) rfl), rfl, by decide +kernel, rfl⟩
theorem fl_RX10_122 : FL RX10 122 10 42 := ⟨_, rfl, by decide, rin_6 _ (List.mem_of_getElem? (i := 22) rfl)⟩
theorem fp_RX10_122 : FP RX10 122 10 42 true (.array .boolean) := ⟨_, rfl, by decide, rin_6 _ (List.mem_of_getElem? (i := 22) rfl), rfl, by decide +kernel, rfl⟩
theorem fl_RX10_125 : FL RX10 125 10 43 := ⟨_, rfl, by decide, rin_6 _ (List.mem_of_getElem? (i := 23) rfl)⟩
theorem fp_RX10_125 : FP RX10 125 10 43 true (.array .int) := ⟨_, rfl, by decide, rin_6 _ (List.mem_of_getElem? (i := 23) rfl), rfl, by decide +kernel, rfl⟩
theorem fl_RX10_128 : FL RX10 128 10 44 := ⟨_, rfl, by decide, rin_7 _ (List.mem_of_getElem? (i := 0) rfl)⟩
theorem fp_RX10_128 : FP RX10 128 10 44 true (.array .int) := ⟨_, rfl, by decide, rin_7 _ (List.mem_of_getElem? (i := 0) rfl), rfl, by decide +kernel, rfl⟩
theorem fl_RX10_131 : FL RX10 131 10 45 := ⟨_, rfl, by decide, rin_7 _ (List.mem_of_getElem? (i := 1) rfl)⟩
theorem fp_RX10_131 : FP RX10 131 10 45 true (.array .int) := ⟨_, rfl, by decide, rin_7 _ (List.mem_of_getElem? (i := 1) rfl), rfl, by decide +kernel, rfl⟩
theorem fl_RX10_134 : FL RX10 134 10 46 := ⟨_, rfl, by decide, rin_7 _ (List.mem_of_getElem? (i := 2) rfl)⟩
theorem fp_RX10_134 : FP RX10 134 10 46 true (.array .int) := ⟨_, rfl, by decide, rin_7 _ (List.mem_of_getElem? (i := 2) rfl), rfl, by decide +kernel, rfl⟩
theorem fl_RX10_137 : FL RX10 137 10 47 := ⟨_, rfl, by decide, rin_7 _ (List.mem_of_getElem? (i := 3) rfl)⟩
theorem fp_RX10_137 : FP RX10 137 10 47 true (.array .int) := ⟨_, rfl, by decide, rin_7 _ (List.mem_of_getElem? (i := 3) rfl), rfl, by decide +kernel, rfl⟩
theorem fl_RX10_140 : FL RX10 140 10 48 := ⟨_, rfl, by decide, rin_7 _ (List.mem_of_getElem? (i := 4) rfl)⟩
theorem fp_RX10_140 : FP RX10 140 10 48 true (.array .int) := ⟨_, rfl, by decide, rin_7 _ (List.mem_of_getElem? (i := 4) rfl), rfl, by decide +kernel, rfl⟩
theorem fl_RX10_143 : FL RX10 143 10 49 := ⟨_, rfl, by decide, rin_7 _ (List.mem_of_getElem? (i := 5) rfl)⟩
theorem fp_RX10_143 : FP RX10 143 10 49 true (.array .boolean) := ⟨_, rfl, by decide, rin_7 _ (List.mem_of_getElem? (i := 5) rfl), rfl, by decide +kernel, rfl⟩
theorem fl_RX10_146 : FL RX10 146 10 0 := ⟨_, rfl, by decide, rin_8 _ (List.mem_of_getElem? (i := 12) rfl)⟩
theorem fp_RX10_146 : FP RX10 146 10 0 false .int := ⟨_, rfl, by decide, rin_8 _ (List.mem_of_getElem? (i := 12) rfl), rfl, by decide +kernel, rfl⟩
theorem fl_RX10_154 : FL RX10 154 10 3 := ⟨_, rfl, by decide, rin_13 _ (List.mem_of_getElem? (i := 13) rfl)⟩
theorem fp_RX10_154 : FP RX10 154 10 3 false .int := ⟨_, rfl, by decide, rin_13 _ (List.mem_of_getElem? (i := 13) rfl), rfl, by decide +kernel, rfl⟩
theorem fl_RX10_157 : FL RX10 157 10 2 := ⟨_, rfl, by decide, rin_13 _ (List.mem_of_getElem? (i := 14) rfl)⟩
theorem fp_RX10_157 : FP RX10 157 10 2 false .int := ⟨_, rfl, by decide, rin_13 _ (List.mem_of_getElem? (i := 14) rfl), rfl, by decide +kernel, rfl⟩
theorem fl_RX10_179 : FL RX10 179 10 1 := ⟨_, rfl, by decide, rin_13 _ (List.mem_of_getElem? (i := 8) rfl)⟩
theorem fp_RX10_179 : FP RX10 179 10 1 false .int := ⟨_, rfl, by decide, rin_13 _ (List.mem_of_getElem? (i := 8) rfl), rfl, by decide +kernel, rfl⟩
theorem fl_RX10_206 : FL RX10 206 10 39 := ⟨_, rfl, by decide, rin_25 _ (List.mem_of_getElem? (i := 6) rfl)⟩
theorem fp_RX10_206 : FP RX10 206 10 39 false .int := ⟨_, rfl, by decide, rin_25 _ (List.mem_of_getElem? (i := 6) rfl), rfl, by decide +kernel, rfl⟩
theorem fl_RX2_9 : FL RX2 9 2 3 := ⟨_, rfl, by decide, rin_5 _ (List.mem_of_getElem? (i := 1) rfl)⟩
theorem fp_RX2_9 : FP RX2 9 2 3 false .int := ⟨_, rfl, by decide, rin_5 _ (List.mem_of_getElem? (i := 1) rfl), rfl, by decide +kernel, rfl⟩
theorem fl_RX2_15 : FL RX2 15 2 0 := ⟨_, rfl, by decide, rin_5 _ (List.mem_of_getElem? (i := 2) rfl)⟩
theorem fp_RX2_15 : FP RX2 15 2 0 true (.object "TalkNet$Party") := ⟨_, rfl, by decide, rin_5 _ (List.mem_of_getElem? (i := 2) rfl), rfl, by decide +kernel, rfl⟩
theorem fl_RX2_19 : FL RX2 19 2 1 := ⟨_, rfl, by decide, rin_5 _ (List.mem_of_getElem? (i := 3) rfl)⟩
theorem fp_RX2_19 : FP RX2 19 2 1 true (.object "TalkNet$Floor") := ⟨_, rfl, by decide, rin_5 _ (List.mem_of_getElem? (i := 3) rfl), rfl, by decide +kernel, rfl⟩
theorem fl_RX2_23 : FL RX2 23 2 2 := ⟨_, rfl, by decide, rin_21 _ (List.mem_of_getElem? (i := 21) rfl)⟩
theorem fp_RX2_23 : FP RX2 23 2 2 false .int := ⟨_, rfl, by decide, rin_21 _ (List.mem_of_getElem? (i := 21) rfl), rfl, by decide +kernel, rfl⟩
theorem fl_RX2_26 : FL RX2 26 2 6 := ⟨_, rfl, by decide, rin_21 _ (List.mem_of_getElem? (i := 22) rfl)⟩
theorem fp_RX2_26 : FP RX2 26 2 6 false .long := ⟨_, rfl, by decide, rin_21 _ (List.mem_of_getElem? (i := 22) rfl), rfl, by decide +kernel, rfl⟩
theorem fl_RX2_34 : FL RX2 34 2 5 := ⟨_, rfl, by decide, rin_22 _ (List.mem_of_getElem? (i := 3) rfl)⟩
theorem fp_RX2_34 : FP RX2 34 2 5 false .int := ⟨_, rfl, by decide, rin_22 _ (List.mem_of_getElem? (i := 3) rfl), rfl, by decide +kernel, rfl⟩
theorem fl_RX2_37 : FL RX2 37 2 4 := ⟨_, rfl, by decide, rin_22 _ (List.mem_of_getElem? (i := 4) rfl)⟩
theorem fp_RX2_37 : FP RX2 37 2 4 false .int := ⟨_, rfl, by decide, rin_22 _ (List.mem_of_getElem? (i := 4) rfl), rfl, by decide +kernel, rfl⟩
theorem fl_RX3_9 : FL RX3 9 3 10 := ⟨_, rfl, by decide, rin_3 _ (List.mem_of_getElem? (i := 16) rfl)⟩
theorem fp_RX3_9 : FP RX3 9 3 10 true (.array .int) := ⟨_, rfl, by decide, rin_3 _ (List.mem_of_getElem? (i := 16) rfl), rfl, by decide +kernel, rfl⟩
theorem fl_RX3_15 : FL RX3 15 3 0 := ⟨_, rfl, by decide, rin_23 _ (List.mem_of_getElem? (i := 17) rfl)⟩
theorem fp_RX3_15 : FP RX3 15 3 0 false .int := ⟨_, rfl, by decide, rin_23 _ (List.mem_of_getElem? (i := 17) rfl), rfl, by decide +kernel, rfl⟩
theorem fl_RX3_19 : FL RX3 19 3 1 := ⟨_, rfl, by decide, rin_23 _ (List.mem_of_getElem? (i := 18) rfl)⟩
theorem fp_RX3_19 : FP RX3 19 3 1 false .boolean := ⟨_, rfl, by decide, rin_23 _ (List.mem_of_getElem? (i := 18) rfl), rfl, by decide +kernel, rfl⟩
theorem fl_RX3_23 : FL RX3 23 3 7 := ⟨_, rfl, by decide, rin_23 _ (List.mem_of_getElem? (i := 19) rfl)⟩
theorem fp_RX3_23 : FP RX3 23 3 7 false .int := ⟨_, rfl, by decide, rin_23 _ (List.mem_of_getElem? (i := 19) rfl), rfl, by decide +kernel, rfl⟩
theorem fl_RX3_30 : FL RX3 30 3 2 := ⟨_, rfl, by decide, rin_23 _ (List.mem_of_getElem? (i := 20) rfl)⟩
theorem fp_RX3_30 : FP RX3 30 3 2 false .int := ⟨_, rfl, by decide, rin_23 _ (List.mem_of_getElem? (i := 20) rfl), rfl, by decide +kernel, rfl⟩
theorem fl_RX3_37 : FL RX3 37 3 9 := ⟨_, rfl, by decide, rin_23 _ (List.mem_of_getElem? (i := 21) rfl)⟩
theorem fp_RX3_37 : FP RX3 37 3 9 false .int := ⟨_, rfl, by decide, rin_23 _ (List.mem_of_getElem? (i := 21) rfl), rfl, by decide +kernel, rfl⟩
theorem fl_RX3_47 : FL RX3 47 3 3 := ⟨_, rfl, by decide, rin_24 _ (List.mem_of_getElem? (i := 2) rfl)⟩
theorem fp_RX3_47 : FP RX3 47 3 3 false .int := ⟨_, rfl, by decide, rin_24 _ (List.mem_of_getElem? (i := 2) rfl), rfl, by decide +kernel, rfl⟩
theorem fl_RX3_50 : FL RX3 50 3 4 := ⟨_, rfl, by decide, rin_24 _ (List.mem_of_getElem? (i := 3) rfl)⟩
theorem fp_RX3_50 : FP RX3 50 3 4 false .int := ⟨_, rfl, by decide, rin_24 _ (List.mem_of_getElem? (i := 3) rfl), rfl, by decide +kernel, rfl⟩
theorem fl_RX3_59 : FL RX3 59 3 5 := ⟨_, rfl, by decide, rin_28 _ (List.mem_of_getElem? (i := 20) rfl)⟩
theorem fp_RX3_59 : FP RX3 59 3 5 false .int := ⟨_, rfl, by decide, rin_28 _ (List.mem_of_getElem? (i := 20) rfl), rfl, by decide +kernel, rfl⟩
theorem fl_RX3_66 : FL RX3 66 3 6 := ⟨_, rfl, by decide, rin_29 _ (List.mem_of_getElem? (i := 6) rfl)⟩
theorem fp_RX3_66 : FP RX3 66 3 6 false .int := ⟨_, rfl, by decide, rin_29 _ (List.mem_of_getElem? (i := 6) rfl), rfl, by decide +kernel, rfl⟩
theorem fl_RX3_69 : FL RX3 69 3 8 := ⟨_, rfl, by decide, rin_29 _ (List.mem_of_getElem? (i := 1) rfl)⟩
theorem fp_RX3_69 : FP RX3 69 3 8 false .int := ⟨_, rfl, by decide, rin_29 _ (List.mem_of_getElem? (i := 1) rfl), rfl, by decide +kernel, rfl⟩
theorem fl_RX4_9 : FL RX4 9 4 2 := ⟨_, rfl, by decide, rin_3 _ (List.mem_of_getElem? (i := 7) rfl)⟩
theorem fp_RX4_9 : FP RX4 9 4 2 false .int := ⟨_, rfl, by decide, rin_3 _ (List.mem_of_getElem? (i := 7) rfl), rfl, by decide +kernel, rfl⟩
theorem fl_RX4_15 : FL RX4 15 4 9 := ⟨_, rfl, by decide, rin_3 _ (List.mem_of_getElem? (i := 8) rfl)⟩
theorem fp_RX4_15 : FP RX4 15 4 9 false .int := ⟨_, rfl, by decide, rin_3 _ (List.mem_of_getElem? (i := 8) rfl), rfl, by decide +kernel, rfl⟩
theorem fl_RX4_21 : FL RX4 21 4 10 := ⟨_, rfl, by decide, rin_3 _ (List.mem_of_getElem? (i := 12) rfl)⟩
theorem fp_RX4_21 : FP RX4 21 4 10 true (.object "TalkNet$Listener") := ⟨_, rfl, by decide, rin_3 _ (List.mem_of_getElem? (i := 12) rfl), rfl, by decide +kernel, rfl⟩
theorem fl_RX4_25 : FL RX4 25 4 0 := ⟨_, rfl, by decide, rin_10 _ (List.mem_of_getElem? (i := 5) rfl)⟩
theorem fp_RX4_25 : FP RX4 25 4 0 false .boolean := ⟨_, rfl, by decide, rin_10 _ (List.mem_of_getElem? (i := 5) rfl), rfl, by decide +kernel, rfl⟩
theorem fp_RX4_29 : FP RX4 29 3 1 false .boolean := ⟨_, rfl, by decide, rin_10 _ (List.mem_of_getElem? (i := 6) rfl), rfl, by decide +kernel, rfl⟩
theorem fl_RX4_32 : FL RX4 32 5 0 := ⟨_, rfl, by decide, rin_22 _ (List.mem_of_getElem? (i := 18) rfl)⟩
theorem fl_RX4_41 : FL RX4 41 4 6 := ⟨_, rfl, by decide, rin_22 _ (List.mem_of_getElem? (i := 19) rfl)⟩
theorem fp_RX4_41 : FP RX4 41 4 6 false .int := ⟨_, rfl, by decide, rin_22 _ (List.mem_of_getElem? (i := 19) rfl), rfl, by decide +kernel, rfl⟩
theorem fl_RX4_44 : FL RX4 44 5 3 := ⟨_, rfl, by decide, rin_22 _ (List.mem_of_getElem? (i := 20) rfl)⟩
theorem fl_RX4_51 : FL RX4 51 5 4 := ⟨_, rfl, by decide, rin_22 _ (List.mem_of_getElem? (i := 21) rfl)⟩
theorem fl_RX4_58 : FL RX4 58 5 5 := ⟨_, rfl, by decide, rin_22 _ (List.mem_of_getElem? (i := 22) rfl)⟩
theorem fl_RX4_68 : FL RX4 68 4 3 := ⟨_, rfl, by decide, rin_23 _ (List.mem_of_getElem? (i := 3) rfl)⟩
theorem fl_RX4_71 : FL RX4 71 4 7 := ⟨_, rfl, by decide, rin_23 _ (List.mem_of_getElem? (i := 4) rfl)⟩
theorem fp_RX4_71 : FP RX4 71 4 7 false .int := ⟨_, rfl, by decide, rin_23 _ (List.mem_of_getElem? (i := 4) rfl), rfl, by decide +kernel, rfl⟩
theorem fl_RX4_74 : FL RX4 74 4 5 := ⟨_, rfl, by decide, rin_23 _ (List.mem_of_getElem? (i := 5) rfl)⟩
theorem fp_RX4_74 : FP RX4 74 4 5 false .int := ⟨_, rfl, by decide, rin_23 _ (List.mem_of_getElem? (i := 5) rfl), rfl, by decide +kernel, rfl⟩
theorem fl_RX4_77 : FL RX4 77 4 8 := ⟨_, rfl, by decide, rin_23 _ (List.mem_of_getElem? (i := 12) rfl)⟩
theorem fp_RX4_77 : FP RX4 77 4 8 false .int := ⟨_, rfl, by decide, rin_23 _ (List.mem_of_getElem? (i := 12) rfl), rfl, by decide +kernel, rfl⟩
theorem fl_RX4_80 : FL RX4 80 4 1 := ⟨_, rfl, by decide, rin_32 _ (List.mem_of_getElem? (i := 2) rfl)⟩
theorem fl_RX5_7 : FL RX5 7 5 0 := ⟨_, rfl, by decide, rin_18 _ (List.mem_of_getElem? (i := 12) rfl)⟩
theorem fl_RX5_13 : FL RX5 13 5 1 := ⟨_, rfl, by decide, rin_18 _ (List.mem_of_getElem? (i := 13) rfl)⟩
theorem fl_RX5_16 : FL RX5 16 5 2 := ⟨_, rfl, by decide, rin_18 _ (List.mem_of_getElem? (i := 14) rfl)⟩
theorem fl_RX5_19 : FL RX5 19 5 3 := ⟨_, rfl, by decide, rin_18 _ (List.mem_of_getElem? (i := 15) rfl)⟩
theorem fl_RX5_22 : FL RX5 22 5 4 := ⟨_, rfl, by decide, rin_18 _ (List.mem_of_getElem? (i := 16) rfl)⟩
theorem fl_RX5_25 : FL RX5 25 5 5 := ⟨_, rfl, by decide, rin_18 _ (List.mem_of_getElem? (i := 17) rfl)⟩
theorem fl_RX6_13 : FL RX6 13 6 0 := ⟨_, rfl, by decide, rin_2 _ (List.mem_of_getElem? (i := 10) rfl)⟩
theorem fp_RX6_13 : FP RX6 13 6 0 true (.array (.object "TalkNet$Message")) := ⟨_, rfl, by decide, rin_2 _ (List.mem_of_getElem? (i := 10) rfl), rfl, by decide +kernel, rfl⟩
theorem fl_RX6_17 : FL RX6 17 6 1 := ⟨_, rfl, by decide, rin_2 _ (List.mem_of_getElem? (i := 12) rfl)⟩
theorem fp_RX6_17 : FP RX6 17 6 1 true (.array .int) := ⟨_, rfl, by decide, rin_2 _ (List.mem_of_getElem? (i := 12) rfl), rfl, by decide +kernel, rfl⟩
theorem fl_RX6_22 : FL RX6 22 6 2 := ⟨_, rfl, by decide, rin_11 _ (List.mem_of_getElem? (i := 15) rfl)⟩
theorem fp_RX6_22 : FP RX6 22 6 2 false .int := ⟨_, rfl, by decide, rin_11 _ (List.mem_of_getElem? (i := 15) rfl), rfl, by decide +kernel, rfl⟩
theorem fl_RX6_26 : FL RX6 26 6 3 := ⟨_, rfl, by decide, rin_11 _ (List.mem_of_getElem? (i := 16) rfl)⟩
theorem fp_RX6_26 : FP RX6 26 6 3 false .int := ⟨_, rfl, by decide, rin_11 _ (List.mem_of_getElem? (i := 16) rfl), rfl, by decide +kernel, rfl⟩
theorem fp_RX6_29 : FP RX6 29 5 0 false .int := ⟨_, rfl, by decide, rin_11 _ (List.mem_of_getElem? (i := 17) rfl), rfl, by decide +kernel, rfl⟩
theorem fp_RX6_32 : FP RX6 32 5 1 false .int := ⟨_, rfl, by decide, rin_11 _ (List.mem_of_getElem? (i := 18) rfl), rfl, by decide +kernel, rfl⟩
theorem fp_RX6_35 : FP RX6 35 5 2 false .int := ⟨_, rfl, by decide, rin_11 _ (List.mem_of_getElem? (i := 19) rfl), rfl, by decide +kernel, rfl⟩
theorem fp_RX6_38 : FP RX6 38 5 3 false .int := ⟨_, rfl, by decide, rin_11 _ (List.mem_of_getElem? (i := 20) rfl), rfl, by decide +kernel, rfl⟩
theorem fp_RX6_41 : FP RX6 41 5 4 false .int := ⟨_, rfl, by decide, rin_11 _ (List.mem_of_getElem? (i := 21) rfl), rfl, by decide +kernel, rfl⟩
theorem fp_RX6_44 : FP RX6 44 5 5 false .int := ⟨_, rfl, by decide, rin_11 _ (List.mem_of_getElem? (i := 22) rfl), rfl, by decide +kernel, rfl⟩
theorem fl_RX7_9 : FL RX7 9 7 0 := ⟨_, rfl, by decide, rin_2 _ (List.mem_of_getElem? (i := 22) rfl)⟩
theorem fp_RX7_9 : FP RX7 9 7 0 true (.object "TalkNet$Net") := ⟨_, rfl, by decide, rin_2 _ (List.mem_of_getElem? (i := 22) rfl), rfl, by decide +kernel, rfl⟩
theorem fl_RX7_15 : FL RX7 15 7 1 := ⟨_, rfl, by decide, rin_2 _ (List.mem_of_getElem? (i := 23) rfl)⟩
theorem fp_RX7_15 : FP RX7 15 7 1 true .int := ⟨_, rfl, by decide, rin_2 _ (List.mem_of_getElem? (i := 23) rfl), rfl, by decide +kernel, rfl⟩
theorem fl_RX7_21 : FL RX7 21 7 2 := ⟨_, rfl, by decide, rin_3 _ (List.mem_of_getElem? (i := 1) rfl)⟩
theorem fp_RX7_21 : FP RX7 21 7 2 true (.array (.object "TalkNet$Member")) := ⟨_, rfl, by decide, rin_3 _ (List.mem_of_getElem? (i := 1) rfl), rfl, by decide +kernel, rfl⟩
theorem fl_RX7_32 : FL RX7 32 4 0 := ⟨_, rfl, by decide, rin_12 _ (List.mem_of_getElem? (i := 3) rfl)⟩
theorem fl_RX7_36 : FL RX7 36 4 10 := ⟨_, rfl, by decide, rin_28 _ (List.mem_of_getElem? (i := 11) rfl)⟩
theorem fl_RX8_7 : FL RX8 7 8 1 := ⟨_, rfl, by decide, rin_4 _ (List.mem_of_getElem? (i := 15) rfl)⟩
theorem fp_RX8_7 : FP RX8 7 8 1 false .int := ⟨_, rfl, by decide, rin_4 _ (List.mem_of_getElem? (i := 15) rfl), rfl, by decide +kernel, rfl⟩
theorem fl_RX8_13 : FL RX8 13 8 2 := ⟨_, rfl, by decide, rin_4 _ (List.mem_of_getElem? (i := 16) rfl)⟩
theorem fp_RX8_13 : FP RX8 13 8 2 false .int := ⟨_, rfl, by decide, rin_4 _ (List.mem_of_getElem? (i := 16) rfl), rfl, by decide +kernel, rfl⟩
theorem fl_RX8_16 : FL RX8 16 8 3 := ⟨_, rfl, by decide, rin_4 _ (List.mem_of_getElem? (i := 17) rfl)⟩
theorem fp_RX8_16 : FP RX8 16 8 3 false .int := ⟨_, rfl, by decide, rin_4 _ (List.mem_of_getElem? (i := 17) rfl), rfl, by decide +kernel, rfl⟩
theorem fl_RX8_19 : FL RX8 19 8 0 := ⟨_, rfl, by decide, rin_8 _ (List.mem_of_getElem? (i := 7) rfl)⟩
theorem fp_RX8_19 : FP RX8 19 8 0 false .boolean := ⟨_, rfl, by decide, rin_8 _ (List.mem_of_getElem? (i := 7) rfl), rfl, by decide +kernel, rfl⟩
theorem fl_RX9_10 : FL RX9 10 9 0 := ⟨_, rfl, by decide, rin_1 _ (List.mem_of_getElem? (i := 16) rfl)⟩
theorem fp_RX9_10 : FP RX9 10 9 0 true (.object "TalkNet$Net") := ⟨_, rfl, by decide, rin_1 _ (List.mem_of_getElem? (i := 16) rfl), rfl, by decide +kernel, rfl⟩
theorem fl_RX9_18 : FL RX9 18 9 1 := ⟨_, rfl, by decide, rin_1 _ (List.mem_of_getElem? (i := 18) rfl)⟩
theorem fp_RX9_18 : FP RX9 18 9 1 true (.array (.object "TalkNet$Party")) := ⟨_, rfl, by decide, rin_1 _ (List.mem_of_getElem? (i := 18) rfl), rfl, by decide +kernel, rfl⟩
theorem fl_RX9_24 : FL RX9 24 9 2 := ⟨_, rfl, by decide, rin_1 _ (List.mem_of_getElem? (i := 20) rfl)⟩
theorem fp_RX9_24 : FP RX9 24 9 2 true (.array (.object "TalkNet$Floor")) := ⟨_, rfl, by decide, rin_1 _ (List.mem_of_getElem? (i := 20) rfl), rfl, by decide +kernel, rfl⟩
theorem fl_RX9_30 : FL RX9 30 9 3 := ⟨_, rfl, by decide, rin_1 _ (List.mem_of_getElem? (i := 22) rfl)⟩
theorem fp_RX9_30 : FP RX9 30 9 3 true (.array (.object "TalkNet$Gate")) := ⟨_, rfl, by decide, rin_1 _ (List.mem_of_getElem? (i := 22) rfl), rfl, by decide +kernel, rfl⟩
theorem fl_RX9_51 : FL RX9 51 1 1 := ⟨_, rfl, by decide, rin_7 _ (List.mem_of_getElem? (i := 16) rfl)⟩
theorem fl_RX9_65 : FL RX9 65 4 0 := ⟨_, rfl, by decide, rin_9 _ (List.mem_of_getElem? (i := 3) rfl)⟩
theorem fp_RX9_65 : FP RX9 65 4 0 false .boolean := ⟨_, rfl, by decide, rin_9 _ (List.mem_of_getElem? (i := 3) rfl), rfl, by decide +kernel, rfl⟩
theorem fp_RX9_71 : FP RX9 71 4 1 false .int := ⟨_, rfl, by decide, rin_9 _ (List.mem_of_getElem? (i := 4) rfl), rfl, by decide +kernel, rfl⟩
theorem fl_RX9_78 : FL RX9 78 9 4 := ⟨_, rfl, by decide, rin_10 _ (List.mem_of_getElem? (i := 0) rfl)⟩
theorem fp_RX9_78 : FP RX9 78 9 4 false .int := ⟨_, rfl, by decide, rin_10 _ (List.mem_of_getElem? (i := 0) rfl), rfl, by decide +kernel, rfl⟩
theorem fl_RX9_88 : FL RX9 88 4 2 := ⟨_, rfl, by decide, rin_14 _ (List.mem_of_getElem? (i := 3) rfl)⟩
theorem fp_RX9_88 : FP RX9 88 4 2 false .int := ⟨_, rfl, by decide, rin_14 _ (List.mem_of_getElem? (i := 3) rfl), rfl, by decide +kernel, rfl⟩
theorem fl_RX9_95 : FL RX9 95 4 3 := ⟨_, rfl, by decide, rin_14 _ (List.mem_of_getElem? (i := 4) rfl)⟩
theorem fp_RX9_95 : FP RX9 95 4 3 false .int := ⟨_, rfl, by decide, rin_14 _ (List.mem_of_getElem? (i := 4) rfl), rfl, by decide +kernel, rfl⟩
theorem fl_RX9_98 : FL RX9 98 4 4 := ⟨_, rfl, by decide, rin_14 _ (List.mem_of_getElem? (i := 5) rfl)⟩
theorem fp_RX9_98 : FP RX9 98 4 4 false .boolean := ⟨_, rfl, by decide, rin_14 _ (List.mem_of_getElem? (i := 5) rfl), rfl, by decide +kernel, rfl⟩
theorem fl_RX9_116 : FL RX9 116 4 7 := ⟨_, rfl, by decide, rin_16 _ (List.mem_of_getElem? (i := 16) rfl)⟩
theorem fp_RX9_116 : FP RX9 116 4 7 false .int := ⟨_, rfl, by decide, rin_16 _ (List.mem_of_getElem? (i := 16) rfl), rfl, by decide +kernel, rfl⟩
theorem fl_RX9_122 : FL RX9 122 4 6 := ⟨_, rfl, by decide, rin_16 _ (List.mem_of_getElem? (i := 17) rfl)⟩
theorem fl_RX9_125 : FL RX9 125 6 2 := ⟨_, rfl, by decide, rin_17 _ (List.mem_of_getElem? (i := 6) rfl)⟩
theorem fl_RX9_158 : FL RX9 158 1 5 := ⟨_, rfl, by decide, rin_30 _ (List.mem_of_getElem? (i := 17) rfl)⟩
theorem fl_RX9_161 : FL RX9 161 1 4 := ⟨_, rfl, by decide, rin_30 _ (List.mem_of_getElem? (i := 18) rfl)⟩
theorem fl_RX9_167 : FL RX9 167 4 10 := ⟨_, rfl, by decide, rin_31 _ (List.mem_of_getElem? (i := 21) rfl)⟩
theorem fl_RX9_174 : FL RX9 174 6 3 := ⟨_, rfl, by decide, rin_32 _ (List.mem_of_getElem? (i := 19) rfl)⟩
theorem fl_RX9_177 : FL RX9 177 5 0 := ⟨_, rfl, by decide, rin_19 _ (List.mem_of_getElem? (i := 21) rfl)⟩
theorem fl_RX9_180 : FL RX9 180 5 1 := ⟨_, rfl, by decide, rin_19 _ (List.mem_of_getElem? (i := 22) rfl)⟩
theorem fl_RX9_183 : FL RX9 183 5 2 := ⟨_, rfl, by decide, rin_19 _ (List.mem_of_getElem? (i := 23) rfl)⟩
theorem fl_RX9_186 : FL RX9 186 5 3 := ⟨_, rfl, by decide, rin_20 _ (List.mem_of_getElem? (i := 0) rfl)⟩
theorem fl_RX9_189 : FL RX9 189 5 4 := ⟨_, rfl, by decide, rin_20 _ (List.mem_of_getElem? (i := 1) rfl)⟩
theorem fl_RX9_202 : FL RX9 202 5 5 := ⟨_, rfl, by decide, rin_20 _ (List.mem_of_getElem? (i := 2) rfl)⟩
theorem fl_RX9_209 : FL RX9 209 7 2 := ⟨_, rfl, by decide, rin_9 _ (List.mem_of_getElem? (i := 9) rfl)⟩
theorem lk_RX1_11 : LKI RX1 11 mX8_init := ⟨rin_4 _ (List.mem_of_getElem? (i := 12) rfl), rfl, rfl, Or.inr ⟨RX9, by decide +kernel⟩⟩
theorem lk_RX1_48 : LKI RX1 48 mX0_init := ⟨rin_4 _ (List.mem_of_getElem? (i := 18) rfl), rfl, rfl, Or.inr ⟨RX9, by decide +kernel⟩⟩
theorem lk_RX1_64 : LKV RX1 64 mX1_answerAgain := ⟨rin_20 _ (List.mem_of_getElem? (i := 11) rfl), rin_20 _ (List.mem_of_getElem? (i := 12) rfl), rin_20 _ (List.mem_of_getElem? (i := 13) rfl)⟩
theorem lk_RX1_68 : LKV RX1 68 mX1_takeBack := ⟨rin_20 _ (List.mem_of_getElem? (i := 15) rfl), rin_10 _ (List.mem_of_getElem? (i := 8) rfl), rin_10 _ (List.mem_of_getElem? (i := 9) rfl)⟩
theorem lk_RX1_75 : LKV RX1 75 mX0_renew := ⟨rin_20 _ (List.mem_of_getElem? (i := 16) rfl), rin_20 _ (List.mem_of_getElem? (i := 17) rfl), rin_20 _ (List.mem_of_getElem? (i := 18) rfl)⟩
theorem lk_RX1_82 : LKV RX1 82 mX1_grantTo := ⟨rin_10 _ (List.mem_of_getElem? (i := 21) rfl), rin_10 _ (List.mem_of_getElem? (i := 22) rfl), rin_10 _ (List.mem_of_getElem? (i := 23) rfl)⟩
theorem lk_RX1_88 : LKV RX1 88 mX7_tell := ⟨rin_11 _ (List.mem_of_getElem? (i := 7) rfl), rin_11 _ (List.mem_of_getElem? (i := 8) rfl), rin_11 _ (List.mem_of_getElem? (i := 9) rfl)⟩
theorem lk_RX1_92 : LKV RX1 92 mX1_enqueue := ⟨rin_21 _ (List.mem_of_getElem? (i := 0) rfl), rin_21 _ (List.mem_of_getElem? (i := 1) rfl), rin_21 _ (List.mem_of_getElem? (i := 2) rfl)⟩
theorem lk_RX1_95 : LKV RX1 95 mX1_revokeIfBelow := ⟨rin_21 _ (List.mem_of_getElem? (i := 8) rfl), rin_21 _ (List.mem_of_getElem? (i := 9) rfl), rin_21 _ (List.mem_of_getElem? (i := 10) rfl)⟩
theorem lk_RX1_99 : LKV RX1 99 mX1_placeOf := ⟨rin_10 _ (List.mem_of_getElem? (i := 13) rfl), rin_10 _ (List.mem_of_getElem? (i := 14) rfl), rin_10 _ (List.mem_of_getElem? (i := 15) rfl)⟩
theorem lk_RX1_103 : LKV RX1 103 mX1_goFromRow := ⟨rin_10 _ (List.mem_of_getElem? (i := 17) rfl), rin_10 _ (List.mem_of_getElem? (i := 18) rfl), rin_10 _ (List.mem_of_getElem? (i := 19) rfl)⟩
theorem lk_RX1_109 : LKV RX1 109 mX1_isOver := ⟨rin_28 _ (List.mem_of_getElem? (i := 0) rfl), rin_28 _ (List.mem_of_getElem? (i := 1) rfl), rin_28 _ (List.mem_of_getElem? (i := 2) rfl)⟩
theorem lk_RX1_113 : LKV RX1 113 mX7_tellOthers := ⟨rin_11 _ (List.mem_of_getElem? (i := 23) rfl), rin_12 _ (List.mem_of_getElem? (i := 0) rfl), rin_12 _ (List.mem_of_getElem? (i := 1) rfl)⟩
theorem lk_RX1_126 : LKV RX1 126 mX8_copyFrom := ⟨rin_11 _ (List.mem_of_getElem? (i := 2) rfl), rin_11 _ (List.mem_of_getElem? (i := 3) rfl), rin_11 _ (List.mem_of_getElem? (i := 4) rfl)⟩
theorem lk_RX1_130 : LKV RX1 130 mX0_isAbove := ⟨rin_21 _ (List.mem_of_getElem? (i := 4) rfl), rin_21 _ (List.mem_of_getElem? (i := 5) rfl), rin_21 _ (List.mem_of_getElem? (i := 6) rfl)⟩
theorem lk_RX2_30 : LKV RX2 30 mX2_lets := ⟨rin_22 _ (List.mem_of_getElem? (i := 5) rfl), rin_22 _ (List.mem_of_getElem? (i := 6) rfl), rin_22 _ (List.mem_of_getElem? (i := 7) rfl)⟩
theorem lk_RX2_40 : LKV RX2 40 mX7_tellOthers := ⟨rin_22 _ (List.mem_of_getElem? (i := 9) rfl), rin_12 _ (List.mem_of_getElem? (i := 0) rfl), rin_12 _ (List.mem_of_getElem? (i := 1) rfl)⟩
theorem lk_RX2_46 : LKV RX2 46 mX1_hearPassed := ⟨rin_22 _ (List.mem_of_getElem? (i := 10) rfl), rin_22 _ (List.mem_of_getElem? (i := 11) rfl), rin_22 _ (List.mem_of_getElem? (i := 12) rfl)⟩
theorem lk_RX3_26 : LKV RX3 26 mX3_begin := ⟨rin_23 _ (List.mem_of_getElem? (i := 22) rfl), rin_23 _ (List.mem_of_getElem? (i := 23) rfl), rin_24 _ (List.mem_of_getElem? (i := 0) rfl)⟩
theorem lk_RX3_33 : LKV RX3 33 mX3_isKept := ⟨rin_24 _ (List.mem_of_getElem? (i := 4) rfl), rin_24 _ (List.mem_of_getElem? (i := 5) rfl), rin_24 _ (List.mem_of_getElem? (i := 6) rfl)⟩
theorem lk_RX3_40 : LKS RX3 40 mX3_bitOf := ⟨rin_24 _ (List.mem_of_getElem? (i := 8) rfl), rin_24 _ (List.mem_of_getElem? (i := 9) rfl)⟩
theorem lk_RX3_44 : LKS RX3 44 mX3_slotOf := ⟨rin_24 _ (List.mem_of_getElem? (i := 11) rfl), rin_24 _ (List.mem_of_getElem? (i := 12) rfl)⟩
theorem lk_RX3_53 : LKV RX3 53 mX3_playUnit := ⟨rin_28 _ (List.mem_of_getElem? (i := 16) rfl), rin_28 _ (List.mem_of_getElem? (i := 17) rfl), rin_28 _ (List.mem_of_getElem? (i := 18) rfl)⟩
theorem lk_RX3_56 : LKV RX3 56 mX3_playGap := ⟨rin_29 _ (List.mem_of_getElem? (i := 2) rfl), rin_29 _ (List.mem_of_getElem? (i := 3) rfl), rin_29 _ (List.mem_of_getElem? (i := 4) rfl)⟩
theorem lk_RX3_62 : LKV RX3 62 mX3_addToSum := ⟨rin_28 _ (List.mem_of_getElem? (i := 21) rfl), rin_28 _ (List.mem_of_getElem? (i := 22) rfl), rin_28 _ (List.mem_of_getElem? (i := 23) rfl)⟩
theorem lk_RX4_20 : LKI RX4 20 mX3_init := ⟨rin_3 _ (List.mem_of_getElem? (i := 13) rfl), rfl, rfl, Or.inr ⟨RX9, by decide +kernel⟩⟩
theorem lk_RX4_37 : LKV RX4 37 mX4_hearAnswer := ⟨rin_22 _ (List.mem_of_getElem? (i := 23) rfl), rin_23 _ (List.mem_of_getElem? (i := 0) rfl), rin_23 _ (List.mem_of_getElem? (i := 1) rfl)⟩
theorem lk_RX4_47 : LKV RX4 47 mX4_isTalking := ⟨rin_23 _ (List.mem_of_getElem? (i := 7) rfl), rin_16 _ (List.mem_of_getElem? (i := 19) rfl), rin_16 _ (List.mem_of_getElem? (i := 20) rfl)⟩
theorem lk_RX4_54 : LKV RX4 54 mX4_hearTalker := ⟨rin_23 _ (List.mem_of_getElem? (i := 8) rfl), rin_23 _ (List.mem_of_getElem? (i := 9) rfl), rin_23 _ (List.mem_of_getElem? (i := 10) rfl)⟩
theorem lk_RX4_61 : LKV RX4 61 mX3_hear := ⟨rin_23 _ (List.mem_of_getElem? (i := 13) rfl), rin_23 _ (List.mem_of_getElem? (i := 14) rfl), rin_23 _ (List.mem_of_getElem? (i := 15) rfl)⟩
theorem lk_RX4_65 : LKV RX4 65 mX4_isAsking := ⟨rin_23 _ (List.mem_of_getElem? (i := 6) rfl), rin_15 _ (List.mem_of_getElem? (i := 12) rfl), rin_15 _ (List.mem_of_getElem? (i := 13) rfl)⟩
theorem lk_RX6_21 : LKI RX6 21 mX5_init := ⟨rin_2 _ (List.mem_of_getElem? (i := 15) rfl), rfl, rfl, Or.inr ⟨RX9, by decide +kernel⟩⟩
theorem lk_RX7_25 : LKI RX7 25 mX4_init := ⟨rin_3 _ (List.mem_of_getElem? (i := 4) rfl), rfl, rfl, Or.inr ⟨RX9, by decide +kernel⟩⟩
theorem lk_RX7_26 : LKV RX7 26 mX6_send := ⟨rin_11 _ (List.mem_of_getElem? (i := 11) rfl), rin_11 _ (List.mem_of_getElem? (i := 12) rfl), rin_11 _ (List.mem_of_getElem? (i := 13) rfl)⟩
theorem lk_RX7_40 : LKV RX7 40 mX3_play := ⟨rin_28 _ (List.mem_of_getElem? (i := 12) rfl), rin_28 _ (List.mem_of_getElem? (i := 13) rfl), rin_28 _ (List.mem_of_getElem? (i := 14) rfl)⟩
theorem lk_RX8_23 : LKV RX8 23 mX8_set := ⟨rin_11 _ (List.mem_of_getElem? (i := 6) rfl), rin_8 _ (List.mem_of_getElem? (i := 4) rfl), rin_8 _ (List.mem_of_getElem? (i := 5) rfl)⟩
theorem lk_RX9_9 : LKI RX9 9 mX6_init := ⟨rin_2 _ (List.mem_of_getElem? (i := 6) rfl), rfl, rfl, Or.inl (rin_2 _ (List.mem_of_getElem? (i := 5) rfl))⟩
theorem lk_RX9_34 : LKI RX9 34 mX7_init := ⟨rin_2 _ (List.mem_of_getElem? (i := 19) rfl), rfl, rfl, Or.inl (rin_2 _ (List.mem_of_getElem? (i := 18) rfl))⟩
theorem lk_RX9_37 : LKI RX9 37 mX1_init := ⟨rin_3 _ (List.mem_of_getElem? (i := 18) rfl), rfl, rfl, Or.inl (rin_3 _ (List.mem_of_getElem? (i := 17) rfl))⟩
theorem lk_RX9_40 : LKI RX9 40 mX2_init := ⟨rin_4 _ (List.mem_of_getElem? (i := 22) rfl), rfl, rfl, Or.inl (rin_4 _ (List.mem_of_getElem? (i := 21) rfl))⟩
theorem lk_RX9_43 : LKS RX9 43 mX9_needGroup := ⟨rin_7 _ (List.mem_of_getElem? (i := 17) rfl), rin_7 _ (List.mem_of_getElem? (i := 18) rfl)⟩
theorem lk_RX9_47 : LKS RX9 47 mX9_needArgument := ⟨rin_7 _ (List.mem_of_getElem? (i := 22) rfl), rin_7 _ (List.mem_of_getElem? (i := 23) rfl)⟩
theorem lk_RX9_55 : LKV RX9 55 mX8_set := ⟨rin_8 _ (List.mem_of_getElem? (i := 3) rfl), rin_8 _ (List.mem_of_getElem? (i := 4) rfl), rin_8 _ (List.mem_of_getElem? (i := 5) rfl)⟩
theorem lk_RX9_61 : LKV RX9 61 mX9_memberOf := ⟨rin_9 _ (List.mem_of_getElem? (i := 5) rfl), rin_9 _ (List.mem_of_getElem? (i := 6) rfl), rin_9 _ (List.mem_of_getElem? (i := 7) rfl)⟩
theorem lk_RX9_75 : LKV RX9 75 mX4_goAway := ⟨rin_10 _ (List.mem_of_getElem? (i := 1) rfl), rin_10 _ (List.mem_of_getElem? (i := 2) rfl), rin_10 _ (List.mem_of_getElem? (i := 3) rfl)⟩
theorem lk_RX9_81 : LKV RX9 81 mX1_takeBack := ⟨rin_10 _ (List.mem_of_getElem? (i := 7) rfl), rin_10 _ (List.mem_of_getElem? (i := 8) rfl), rin_10 _ (List.mem_of_getElem? (i := 9) rfl)⟩
theorem lk_RX9_85 : LKV RX9 85 mX9_memberThere := ⟨rin_14 _ (List.mem_of_getElem? (i := 6) rfl), rin_14 _ (List.mem_of_getElem? (i := 7) rfl), rin_14 _ (List.mem_of_getElem? (i := 8) rfl)⟩
theorem lk_RX9_91 : LKS RX9 91 mX9_needState := ⟨rin_14 _ (List.mem_of_getElem? (i := 10) rfl), rin_14 _ (List.mem_of_getElem? (i := 11) rfl)⟩
theorem lk_RX9_101 : LKV RX9 101 mX9_sendRequest := ⟨rin_14 _ (List.mem_of_getElem? (i := 15) rfl), rin_14 _ (List.mem_of_getElem? (i := 16) rfl), rin_14 _ (List.mem_of_getElem? (i := 17) rfl)⟩
theorem lk_RX9_105 : LKV RX9 105 mX4_isAsking := ⟨rin_15 _ (List.mem_of_getElem? (i := 11) rfl), rin_15 _ (List.mem_of_getElem? (i := 12) rfl), rin_15 _ (List.mem_of_getElem? (i := 13) rfl)⟩
theorem lk_RX9_109 : LKV RX9 109 mX6_send := ⟨rin_14 _ (List.mem_of_getElem? (i := 19) rfl), rin_11 _ (List.mem_of_getElem? (i := 12) rfl), rin_11 _ (List.mem_of_getElem? (i := 13) rfl)⟩
theorem lk_RX9_113 : LKV RX9 113 mX4_isTalking := ⟨rin_16 _ (List.mem_of_getElem? (i := 18) rfl), rin_16 _ (List.mem_of_getElem? (i := 19) rfl), rin_16 _ (List.mem_of_getElem? (i := 20) rfl)⟩
theorem lk_RX9_128 : LKV RX9 128 mX9_needMessage := ⟨rin_17 _ (List.mem_of_getElem? (i := 19) rfl), rin_17 _ (List.mem_of_getElem? (i := 20) rfl), rin_17 _ (List.mem_of_getElem? (i := 21) rfl)⟩
theorem lk_RX9_131 : LKS RX9 131 mX9_needIndex := ⟨rin_17 _ (List.mem_of_getElem? (i := 23) rfl), rin_18 _ (List.mem_of_getElem? (i := 0) rfl)⟩
theorem lk_RX9_134 : LKV RX9 134 mX6_at := ⟨rin_18 _ (List.mem_of_getElem? (i := 4) rfl), rin_18 _ (List.mem_of_getElem? (i := 5) rfl), rin_18 _ (List.mem_of_getElem? (i := 6) rfl)⟩
theorem lk_RX9_138 : LKV RX9 138 mX5_field := ⟨rin_18 _ (List.mem_of_getElem? (i := 8) rfl), rin_18 _ (List.mem_of_getElem? (i := 9) rfl), rin_18 _ (List.mem_of_getElem? (i := 10) rfl)⟩
theorem lk_RX9_144 : LKV RX9 144 mX6_takeOut := ⟨rin_19 _ (List.mem_of_getElem? (i := 9) rfl), rin_19 _ (List.mem_of_getElem? (i := 10) rfl), rin_19 _ (List.mem_of_getElem? (i := 11) rfl)⟩
theorem lk_RX9_147 : LKV RX9 147 mX9_deliver := ⟨rin_19 _ (List.mem_of_getElem? (i := 17) rfl), rin_19 _ (List.mem_of_getElem? (i := 18) rfl), rin_19 _ (List.mem_of_getElem? (i := 19) rfl)⟩
theorem lk_RX9_151 : LKV RX9 151 mX1_passTime := ⟨rin_27 _ (List.mem_of_getElem? (i := 20) rfl), rin_27 _ (List.mem_of_getElem? (i := 21) rfl), rin_27 _ (List.mem_of_getElem? (i := 22) rfl)⟩
theorem lk_RX9_154 : LKV RX9 154 mX7_play := ⟨rin_28 _ (List.mem_of_getElem? (i := 7) rfl), rin_28 _ (List.mem_of_getElem? (i := 8) rfl), rin_28 _ (List.mem_of_getElem? (i := 9) rfl)⟩
theorem lk_RX9_157 : LKV RX9 157 mX1_field := ⟨rin_30 _ (List.mem_of_getElem? (i := 2) rfl), rin_30 _ (List.mem_of_getElem? (i := 3) rfl), rin_30 _ (List.mem_of_getElem? (i := 4) rfl)⟩
theorem lk_RX9_165 : LKV RX9 165 mX2_field := ⟨rin_31 _ (List.mem_of_getElem? (i := 6) rfl), rin_31 _ (List.mem_of_getElem? (i := 7) rfl), rin_31 _ (List.mem_of_getElem? (i := 8) rfl)⟩
theorem lk_RX9_166 : LKV RX9 166 mX4_field := ⟨rin_31 _ (List.mem_of_getElem? (i := 22) rfl), rin_31 _ (List.mem_of_getElem? (i := 23) rfl), rin_32 _ (List.mem_of_getElem? (i := 0) rfl)⟩
theorem lk_RX9_171 : LKV RX9 171 mX3_field := ⟨rin_32 _ (List.mem_of_getElem? (i := 3) rfl), rin_32 _ (List.mem_of_getElem? (i := 4) rfl), rin_32 _ (List.mem_of_getElem? (i := 5) rfl)⟩
theorem lk_RX9_192 : LKV RX9 192 mX1_hearRequest := ⟨rin_20 _ (List.mem_of_getElem? (i := 3) rfl), rin_20 _ (List.mem_of_getElem? (i := 4) rfl), rin_20 _ (List.mem_of_getElem? (i := 5) rfl)⟩
theorem lk_RX9_196 : LKV RX9 196 mX1_hearRelease := ⟨rin_21 _ (List.mem_of_getElem? (i := 13) rfl), rin_21 _ (List.mem_of_getElem? (i := 14) rfl), rin_21 _ (List.mem_of_getElem? (i := 15) rfl)⟩
theorem lk_RX9_199 : LKV RX9 199 mX2_hearGate := ⟨rin_21 _ (List.mem_of_getElem? (i := 17) rfl), rin_21 _ (List.mem_of_getElem? (i := 18) rfl), rin_21 _ (List.mem_of_getElem? (i := 19) rfl)⟩
theorem lk_RX9_205 : LKV RX9 205 mX2_hearUnit := ⟨rin_21 _ (List.mem_of_getElem? (i := 23) rfl), rin_22 _ (List.mem_of_getElem? (i := 0) rfl), rin_22 _ (List.mem_of_getElem? (i := 1) rfl)⟩
theorem lk_RX9_213 : LKV RX9 213 mX4_hear := ⟨rin_22 _ (List.mem_of_getElem? (i := 14) rfl), rin_22 _ (List.mem_of_getElem? (i := 15) rfl), rin_22 _ (List.mem_of_getElem? (i := 16) rfl)⟩
theorem lk_RX10_150 : LKS RX10 150 mX10_within := ⟨rin_8 _ (List.mem_of_getElem? (i := 13) rfl), rin_8 _ (List.mem_of_getElem? (i := 14) rfl)⟩
theorem lk_RX10_160 : LKS RX10 160 mX10_isMember := ⟨rin_9 _ (List.mem_of_getElem? (i := 14) rfl), rin_9 _ (List.mem_of_getElem? (i := 15) rfl)⟩
theorem lk_RX10_164 : LKV RX10 164 mX10_clear := ⟨rin_12 _ (List.mem_of_getElem? (i := 8) rfl), rin_12 _ (List.mem_of_getElem? (i := 9) rfl), rin_12 _ (List.mem_of_getElem? (i := 10) rfl)⟩
theorem lk_RX10_168 : LKV RX10 168 mX10_send := ⟨rin_13 _ (List.mem_of_getElem? (i := 9) rfl), rin_13 _ (List.mem_of_getElem? (i := 10) rfl), rin_13 _ (List.mem_of_getElem? (i := 11) rfl)⟩
theorem lk_RX10_172 : LKV RX10 172 mX10_ask := ⟨rin_15 _ (List.mem_of_getElem? (i := 0) rfl), rin_15 _ (List.mem_of_getElem? (i := 1) rfl), rin_15 _ (List.mem_of_getElem? (i := 2) rfl)⟩
theorem lk_RX10_175 : LKV RX10 175 mX10_listen := ⟨rin_26 _ (List.mem_of_getElem? (i := 3) rfl), rin_26 _ (List.mem_of_getElem? (i := 4) rfl), rin_26 _ (List.mem_of_getElem? (i := 5) rfl)⟩
theorem lk_RX10_182 : LKV RX10 182 mX10_above := ⟨rin_13 _ (List.mem_of_getElem? (i := 0) rfl), rin_13 _ (List.mem_of_getElem? (i := 1) rfl), rin_13 _ (List.mem_of_getElem? (i := 2) rfl)⟩
theorem lk_RX10_186 : LKV RX10 186 mX10_placeOf := ⟨rin_12 _ (List.mem_of_getElem? (i := 20) rfl), rin_12 _ (List.mem_of_getElem? (i := 21) rfl), rin_12 _ (List.mem_of_getElem? (i := 22) rfl)⟩
theorem lk_RX10_190 : LKV RX10 190 mX10_tellTalker := ⟨rin_13 _ (List.mem_of_getElem? (i := 15) rfl), rin_13 _ (List.mem_of_getElem? (i := 16) rfl), rin_13 _ (List.mem_of_getElem? (i := 17) rfl)⟩
theorem lk_RX10_194 : LKV RX10 194 mX10_waitsAt := ⟨rin_12 _ (List.mem_of_getElem? (i := 16) rfl), rin_12 _ (List.mem_of_getElem? (i := 17) rfl), rin_12 _ (List.mem_of_getElem? (i := 18) rfl)⟩
theorem lk_RX10_197 : LKV RX10 197 mX10_give := ⟨rin_13 _ (List.mem_of_getElem? (i := 4) rfl), rin_13 _ (List.mem_of_getElem? (i := 5) rfl), rin_13 _ (List.mem_of_getElem? (i := 6) rfl)⟩
theorem lk_RX10_200 : LKV RX10 200 mX10_free := ⟨rin_12 _ (List.mem_of_getElem? (i := 12) rfl), rin_12 _ (List.mem_of_getElem? (i := 13) rfl), rin_12 _ (List.mem_of_getElem? (i := 14) rfl)⟩
theorem lk_RX10_203 : LKV RX10 203 mX10_waitCount := ⟨rin_25 _ (List.mem_of_getElem? (i := 7) rfl), rin_25 _ (List.mem_of_getElem? (i := 8) rfl), rin_25 _ (List.mem_of_getElem? (i := 9) rfl)⟩
theorem lk_RX10_209 : LKV RX10 209 mX10_isMessage := ⟨rin_18 _ (List.mem_of_getElem? (i := 22) rfl), rin_18 _ (List.mem_of_getElem? (i := 23) rfl), rin_19 _ (List.mem_of_getElem? (i := 0) rfl)⟩
theorem lk_RX10_213 : LKV RX10 213 mX10_takeOut := ⟨rin_24 _ (List.mem_of_getElem? (i := 22) rfl), rin_24 _ (List.mem_of_getElem? (i := 23) rfl), rin_25 _ (List.mem_of_getElem? (i := 0) rfl)⟩
theorem lk_RX10_216 : LKV RX10 216 mX10_requested := ⟨rin_25 _ (List.mem_of_getElem? (i := 2) rfl), rin_25 _ (List.mem_of_getElem? (i := 3) rfl), rin_25 _ (List.mem_of_getElem? (i := 4) rfl)⟩
theorem lk_RX10_220 : LKV RX10 220 mX10_released := ⟨rin_25 _ (List.mem_of_getElem? (i := 11) rfl), rin_25 _ (List.mem_of_getElem? (i := 12) rfl), rin_25 _ (List.mem_of_getElem? (i := 13) rfl)⟩
theorem lk_RX10_224 : LKV RX10 224 mX10_gateComes := ⟨rin_25 _ (List.mem_of_getElem? (i := 15) rfl), rin_25 _ (List.mem_of_getElem? (i := 16) rfl), rin_25 _ (List.mem_of_getElem? (i := 17) rfl)⟩
theorem lk_RX10_227 : LKV RX10 227 mX10_unitComes := ⟨rin_25 _ (List.mem_of_getElem? (i := 19) rfl), rin_25 _ (List.mem_of_getElem? (i := 20) rfl), rin_25 _ (List.mem_of_getElem? (i := 21) rfl)⟩
theorem lk_RX10_231 : LKV RX10 231 mX10_memberHears := ⟨rin_25 _ (List.mem_of_getElem? (i := 23) rfl), rin_26 _ (List.mem_of_getElem? (i := 0) rfl), rin_26 _ (List.mem_of_getElem? (i := 1) rfl)⟩
theorem lk_RX10_234 : LKV RX10 234 mX10_comes := ⟨rin_24 _ (List.mem_of_getElem? (i := 18) rfl), rin_24 _ (List.mem_of_getElem? (i := 19) rfl), rin_24 _ (List.mem_of_getElem? (i := 20) rfl)⟩
theorem lk_RX10_238 : LKV RX10 238 mX10_serverTick := ⟨rin_29 _ (List.mem_of_getElem? (i := 11) rfl), rin_29 _ (List.mem_of_getElem? (i := 12) rfl), rin_29 _ (List.mem_of_getElem? (i := 13) rfl)⟩
theorem lk_RX10_241 : LKV RX10 241 mX10_play := ⟨rin_29 _ (List.mem_of_getElem? (i := 15) rfl), rin_29 _ (List.mem_of_getElem? (i := 16) rfl), rin_29 _ (List.mem_of_getElem? (i := 17) rfl)⟩
theorem lk_RX10_244 : LKV RX10 244 mX10_aboutSpurt := ⟨rin_32 _ (List.mem_of_getElem? (i := 11) rfl), rin_32 _ (List.mem_of_getElem? (i := 12) rfl), rin_32 _ (List.mem_of_getElem? (i := 13) rfl)⟩
theorem lk_RL_7 : LKV RL 7 mX9_rules := ⟨rin_7 _ (List.mem_of_getElem? (i := 12) rfl), rin_7 _ (List.mem_of_getElem? (i := 13) rfl), rin_7 _ (List.mem_of_getElem? (i := 14) rfl)⟩
theorem lk_RL_17 : LKV RL 17 mX9_member := ⟨rin_8 _ (List.mem_of_getElem? (i := 23) rfl), rin_9 _ (List.mem_of_getElem? (i := 0) rfl), rin_9 _ (List.mem_of_getElem? (i := 1) rfl)⟩
theorem lk_RL_21 : LKV RL 21 mX9_leave := ⟨rin_9 _ (List.mem_of_getElem? (i := 20) rfl), rin_9 _ (List.mem_of_getElem? (i := 21) rfl), rin_9 _ (List.mem_of_getElem? (i := 22) rfl)⟩
theorem lk_RL_25 : LKV RL 25 mX9_press := ⟨rin_13 _ (List.mem_of_getElem? (i := 23) rfl), rin_14 _ (List.mem_of_getElem? (i := 0) rfl), rin_14 _ (List.mem_of_getElem? (i := 1) rfl)⟩
theorem lk_RL_31 : LKV RL 31 mX9_again := ⟨rin_15 _ (List.mem_of_getElem? (i := 7) rfl), rin_15 _ (List.mem_of_getElem? (i := 8) rfl), rin_15 _ (List.mem_of_getElem? (i := 9) rfl)⟩
theorem lk_RL_35 : LKV RL 35 mX9_release := ⟨rin_15 _ (List.mem_of_getElem? (i := 22) rfl), rin_15 _ (List.mem_of_getElem? (i := 23) rfl), rin_16 _ (List.mem_of_getElem? (i := 0) rfl)⟩
theorem lk_RL_38 : LKV RL 38 mX9_unit := ⟨rin_16 _ (List.mem_of_getElem? (i := 10) rfl), rin_16 _ (List.mem_of_getElem? (i := 11) rfl), rin_16 _ (List.mem_of_getElem? (i := 12) rfl)⟩
theorem lk_RL_44 : LKV RL 44 mX9_message := ⟨rin_17 _ (List.mem_of_getElem? (i := 15) rfl), rin_17 _ (List.mem_of_getElem? (i := 16) rfl), rin_17 _ (List.mem_of_getElem? (i := 17) rfl)⟩
theorem lk_RL_50 : LKV RL 50 mX9_carry := ⟨rin_19 _ (List.mem_of_getElem? (i := 5) rfl), rin_19 _ (List.mem_of_getElem? (i := 6) rfl), rin_19 _ (List.mem_of_getElem? (i := 7) rfl)⟩
theorem lk_RL_54 : LKV RL 54 mX9_twice := ⟨rin_26 _ (List.mem_of_getElem? (i := 10) rfl), rin_26 _ (List.mem_of_getElem? (i := 11) rfl), rin_26 _ (List.mem_of_getElem? (i := 12) rfl)⟩
theorem lk_RL_57 : LKV RL 57 mX9_drop := ⟨rin_26 _ (List.mem_of_getElem? (i := 21) rfl), rin_26 _ (List.mem_of_getElem? (i := 22) rfl), rin_26 _ (List.mem_of_getElem? (i := 23) rfl)⟩
theorem lk_RL_60 : LKV RL 60 mX9_run := ⟨rin_27 _ (List.mem_of_getElem? (i := 8) rfl), rin_27 _ (List.mem_of_getElem? (i := 9) rfl), rin_27 _ (List.mem_of_getElem? (i := 10) rfl)⟩
theorem lk_RL_64 : LKV RL 64 mX9_server := ⟨rin_29 _ (List.mem_of_getElem? (i := 22) rfl), rin_29 _ (List.mem_of_getElem? (i := 23) rfl), rin_30 _ (List.mem_of_getElem? (i := 0) rfl)⟩
theorem lk_RL_67 : LKV RL 67 mX9_waiting := ⟨rin_30 _ (List.mem_of_getElem? (i := 13) rfl), rin_30 _ (List.mem_of_getElem? (i := 14) rfl), rin_30 _ (List.mem_of_getElem? (i := 15) rfl)⟩
theorem lk_RL_70 : LKV RL 70 mX9_relay := ⟨rin_31 _ (List.mem_of_getElem? (i := 2) rfl), rin_31 _ (List.mem_of_getElem? (i := 3) rfl), rin_31 _ (List.mem_of_getElem? (i := 4) rfl)⟩
theorem lk_RL_73 : LKV RL 73 mX9_about := ⟨rin_31 _ (List.mem_of_getElem? (i := 17) rfl), rin_31 _ (List.mem_of_getElem? (i := 18) rfl), rin_31 _ (List.mem_of_getElem? (i := 19) rfl)⟩
theorem lk_RL_76 : LKI RL 76 mX9_init := ⟨rin_1 _ (List.mem_of_getElem? (i := 8) rfl), rfl, rfl, Or.inl (rin_1 _ (List.mem_of_getElem? (i := 7) rfl))⟩
theorem lk_RL_79 : LKI RL 79 mX10_init := ⟨rin_5 _ (List.mem_of_getElem? (i := 5) rfl), rfl, rfl, Or.inl (rin_5 _ (List.mem_of_getElem? (i := 4) rfl))⟩
theorem lk_RL_80 : LKS RL 80 mL_rules := ⟨rin_7 _ (List.mem_of_getElem? (i := 6) rfl), rin_7 _ (List.mem_of_getElem? (i := 7) rfl)⟩
theorem lk_RL_85 : LKV RL 85 mX10_rules := ⟨rin_8 _ (List.mem_of_getElem? (i := 8) rfl), rin_8 _ (List.mem_of_getElem? (i := 9) rfl), rin_8 _ (List.mem_of_getElem? (i := 10) rfl)⟩
theorem lk_RL_86 : LKV RL 86 mX10_thrown := ⟨rin_8 _ (List.mem_of_getElem? (i := 16) rfl), rin_8 _ (List.mem_of_getElem? (i := 17) rfl), rin_8 _ (List.mem_of_getElem? (i := 18) rfl)⟩
theorem lk_RL_90 : LKS RL 90 mL_member := ⟨rin_8 _ (List.mem_of_getElem? (i := 20) rfl), rin_8 _ (List.mem_of_getElem? (i := 21) rfl)⟩
theorem lk_RL_93 : LKV RL 93 mX10_member := ⟨rin_9 _ (List.mem_of_getElem? (i := 10) rfl), rin_9 _ (List.mem_of_getElem? (i := 11) rfl), rin_9 _ (List.mem_of_getElem? (i := 12) rfl)⟩
theorem lk_RL_94 : LKS RL 94 mL_leave := ⟨rin_9 _ (List.mem_of_getElem? (i := 17) rfl), rin_9 _ (List.mem_of_getElem? (i := 18) rfl)⟩
theorem lk_RL_97 : LKV RL 97 mX10_leave := ⟨rin_12 _ (List.mem_of_getElem? (i := 4) rfl), rin_12 _ (List.mem_of_getElem? (i := 5) rfl), rin_12 _ (List.mem_of_getElem? (i := 6) rfl)⟩
theorem lk_RL_98 : LKS RL 98 mL_press := ⟨rin_13 _ (List.mem_of_getElem? (i := 19) rfl), rin_13 _ (List.mem_of_getElem? (i := 20) rfl)⟩
theorem lk_RL_101 : LKV RL 101 mX10_press := ⟨rin_14 _ (List.mem_of_getElem? (i := 20) rfl), rin_14 _ (List.mem_of_getElem? (i := 21) rfl), rin_14 _ (List.mem_of_getElem? (i := 22) rfl)⟩
theorem lk_RL_102 : LKS RL 102 mL_again := ⟨rin_15 _ (List.mem_of_getElem? (i := 4) rfl), rin_15 _ (List.mem_of_getElem? (i := 5) rfl)⟩
theorem lk_RL_105 : LKV RL 105 mX10_again := ⟨rin_15 _ (List.mem_of_getElem? (i := 15) rfl), rin_15 _ (List.mem_of_getElem? (i := 16) rfl), rin_15 _ (List.mem_of_getElem? (i := 17) rfl)⟩
theorem lk_RL_106 : LKS RL 106 mL_release := ⟨rin_15 _ (List.mem_of_getElem? (i := 19) rfl), rin_15 _ (List.mem_of_getElem? (i := 20) rfl)⟩
theorem lk_RL_108 : LKV RL 108 mX10_release := ⟨rin_16 _ (List.mem_of_getElem? (i := 2) rfl), rin_16 _ (List.mem_of_getElem? (i := 3) rfl), rin_16 _ (List.mem_of_getElem? (i := 4) rfl)⟩
theorem lk_RL_109 : LKS RL 109 mL_unit := ⟨rin_16 _ (List.mem_of_getElem? (i := 6) rfl), rin_16 _ (List.mem_of_getElem? (i := 7) rfl)⟩
theorem lk_RL_112 : LKV RL 112 mX10_unit := ⟨rin_16 _ (List.mem_of_getElem? (i := 22) rfl), rin_16 _ (List.mem_of_getElem? (i := 23) rfl), rin_17 _ (List.mem_of_getElem? (i := 0) rfl)⟩
theorem lk_RL_113 : LKV RL 113 mX9_messages := ⟨rin_17 _ (List.mem_of_getElem? (i := 2) rfl), rin_17 _ (List.mem_of_getElem? (i := 3) rfl), rin_17 _ (List.mem_of_getElem? (i := 4) rfl)⟩
theorem lk_RL_116 : LKV RL 116 mX10_messages := ⟨rin_17 _ (List.mem_of_getElem? (i := 7) rfl), rin_17 _ (List.mem_of_getElem? (i := 8) rfl), rin_17 _ (List.mem_of_getElem? (i := 9) rfl)⟩
theorem lk_RL_117 : LKS RL 117 mL_message := ⟨rin_17 _ (List.mem_of_getElem? (i := 11) rfl), rin_17 _ (List.mem_of_getElem? (i := 12) rfl)⟩
theorem lk_RL_119 : LKV RL 119 mX10_message := ⟨rin_18 _ (List.mem_of_getElem? (i := 18) rfl), rin_18 _ (List.mem_of_getElem? (i := 19) rfl), rin_18 _ (List.mem_of_getElem? (i := 20) rfl)⟩
theorem lk_RL_120 : LKS RL 120 mL_carry := ⟨rin_19 _ (List.mem_of_getElem? (i := 2) rfl), rin_19 _ (List.mem_of_getElem? (i := 3) rfl)⟩
theorem lk_RL_123 : LKV RL 123 mX10_carry := ⟨rin_24 _ (List.mem_of_getElem? (i := 14) rfl), rin_24 _ (List.mem_of_getElem? (i := 15) rfl), rin_24 _ (List.mem_of_getElem? (i := 16) rfl)⟩
theorem lk_RL_124 : LKS RL 124 mL_twice := ⟨rin_26 _ (List.mem_of_getElem? (i := 7) rfl), rin_26 _ (List.mem_of_getElem? (i := 8) rfl)⟩
theorem lk_RL_126 : LKV RL 126 mX10_twice := ⟨rin_26 _ (List.mem_of_getElem? (i := 14) rfl), rin_26 _ (List.mem_of_getElem? (i := 15) rfl), rin_26 _ (List.mem_of_getElem? (i := 16) rfl)⟩
theorem lk_RL_127 : LKS RL 127 mL_drop := ⟨rin_26 _ (List.mem_of_getElem? (i := 18) rfl), rin_26 _ (List.mem_of_getElem? (i := 19) rfl)⟩
theorem lk_RL_129 : LKV RL 129 mX10_drop := ⟨rin_27 _ (List.mem_of_getElem? (i := 1) rfl), rin_27 _ (List.mem_of_getElem? (i := 2) rfl), rin_27 _ (List.mem_of_getElem? (i := 3) rfl)⟩
theorem lk_RL_130 : LKS RL 130 mL_run := ⟨rin_27 _ (List.mem_of_getElem? (i := 5) rfl), rin_27 _ (List.mem_of_getElem? (i := 6) rfl)⟩
theorem lk_RL_133 : LKV RL 133 mX10_run := ⟨rin_27 _ (List.mem_of_getElem? (i := 12) rfl), rin_27 _ (List.mem_of_getElem? (i := 13) rfl), rin_27 _ (List.mem_of_getElem? (i := 14) rfl)⟩
theorem lk_RL_134 : LKV RL 134 mX9_tick := ⟨rin_27 _ (List.mem_of_getElem? (i := 16) rfl), rin_27 _ (List.mem_of_getElem? (i := 17) rfl), rin_27 _ (List.mem_of_getElem? (i := 18) rfl)⟩
theorem lk_RL_137 : LKV RL 137 mX10_tick := ⟨rin_29 _ (List.mem_of_getElem? (i := 7) rfl), rin_29 _ (List.mem_of_getElem? (i := 8) rfl), rin_29 _ (List.mem_of_getElem? (i := 9) rfl)⟩
theorem lk_RL_138 : LKS RL 138 mL_server := ⟨rin_29 _ (List.mem_of_getElem? (i := 19) rfl), rin_29 _ (List.mem_of_getElem? (i := 20) rfl)⟩
theorem lk_RL_140 : LKV RL 140 mX10_server := ⟨rin_30 _ (List.mem_of_getElem? (i := 6) rfl), rin_30 _ (List.mem_of_getElem? (i := 7) rfl), rin_30 _ (List.mem_of_getElem? (i := 8) rfl)⟩
theorem lk_RL_141 : LKS RL 141 mL_waiting := ⟨rin_30 _ (List.mem_of_getElem? (i := 10) rfl), rin_30 _ (List.mem_of_getElem? (i := 11) rfl)⟩
theorem lk_RL_143 : LKV RL 143 mX10_waiting := ⟨rin_30 _ (List.mem_of_getElem? (i := 19) rfl), rin_30 _ (List.mem_of_getElem? (i := 20) rfl), rin_30 _ (List.mem_of_getElem? (i := 21) rfl)⟩
theorem lk_RL_144 : LKS RL 144 mL_relay := ⟨rin_30 _ (List.mem_of_getElem? (i := 23) rfl), rin_31 _ (List.mem_of_getElem? (i := 0) rfl)⟩
theorem lk_RL_146 : LKV RL 146 mX10_relay := ⟨rin_31 _ (List.mem_of_getElem? (i := 10) rfl), rin_31 _ (List.mem_of_getElem? (i := 11) rfl), rin_31 _ (List.mem_of_getElem? (i := 12) rfl)⟩
theorem lk_RL_147 : LKS RL 147 mL_about := ⟨rin_31 _ (List.mem_of_getElem? (i := 14) rfl), rin_31 _ (List.mem_of_getElem? (i := 15) rfl)⟩
theorem lk_RL_149 : LKV RL 149 mX10_about := ⟨rin_32 _ (List.mem_of_getElem? (i := 7) rfl), rin_32 _ (List.mem_of_getElem? (i := 8) rfl), rin_32 _ (List.mem_of_getElem? (i := 9) rfl)⟩
theorem lk_RL_150 : LKV RL 150 mX9_lost := ⟨rin_32 _ (List.mem_of_getElem? (i := 15) rfl), rin_32 _ (List.mem_of_getElem? (i := 16) rfl), rin_32 _ (List.mem_of_getElem? (i := 17) rfl)⟩
theorem lk_RL_153 : LKV RL 153 mX10_lost := ⟨rin_32 _ (List.mem_of_getElem? (i := 20) rfl), rin_32 _ (List.mem_of_getElem? (i := 21) rfl), rin_32 _ (List.mem_of_getElem? (i := 22) rfl)⟩
theorem wo_RX9_1 : Cond.methodLink RX9 1 objectInit ∈ wsL_law := rin_1 _ (List.mem_of_getElem? (i := 10) rfl)
theorem wo_RX6_3 : Cond.methodLink RX6 3 objectInit ∈ wsL_law := rin_2 _ (List.mem_of_getElem? (i := 8) rfl)
theorem wo_RX5_1 : Cond.methodLink RX5 1 objectInit ∈ wsL_law := rin_2 _ (List.mem_of_getElem? (i := 17) rfl)
theorem wo_RX7_3 : Cond.methodLink RX7 3 objectInit ∈ wsL_law := rin_2 _ (List.mem_of_getElem? (i := 21) rfl)
theorem wo_RX4_3 : Cond.methodLink RX4 3 objectInit ∈ wsL_law := rin_3 _ (List.mem_of_getElem? (i := 6) rfl)
theorem wo_RX3_3 : Cond.methodLink RX3 3 objectInit ∈ wsL_law := rin_3 _ (List.mem_of_getElem? (i := 15) rfl)
theorem wo_RX1_3 : Cond.methodLink RX1 3 objectInit ∈ wsL_law := rin_3 _ (List.mem_of_getElem? (i := 20) rfl)
theorem wo_RX8_1 : Cond.methodLink RX8 1 objectInit ∈ wsL_law := rin_4 _ (List.mem_of_getElem? (i := 14) rfl)
theorem wo_RX0_1 : Cond.methodLink RX0 1 objectInit ∈ wsL_law := rin_4 _ (List.mem_of_getElem? (i := 20) rfl)
theorem wo_RX2_3 : Cond.methodLink RX2 3 objectInit ∈ wsL_law := rin_5 _ (List.mem_of_getElem? (i := 0) rfl)
theorem wo_RX10_1 : Cond.methodLink RX10 1 objectInit ∈ wsL_law := rin_5 _ (List.mem_of_getElem? (i := 7) rfl)
theorem wo_RX6_47 : Cond.methodLink RX6 47 arraycopyName ∈ wsL_law := rin_19 _ (List.mem_of_getElem? (i := 13) rfl)
theorem wo_in : Cond.instanceMethod objectInit ∈ wsL_law := rin_1 _ (List.mem_of_getElem? (i := 11) rfl)
theorem wo_co : Cond.code objectInit ⟨#[0xb1]⟩ 1 none ∈ wsL_law := rin_1 _ (List.mem_of_getElem? (i := 12) rfl)
theorem wo_nt : Cond.native arraycopyName ∈ wsL_law := rin_19 _ (List.mem_of_getElem? (i := 14) rfl)
theorem wo_st : Cond.static arraycopyName ∈ wsL_law := rin_19 _ (List.mem_of_getElem? (i := 15) rfl)
theorem wo_sy : Cond.initialized "java/lang/System" ∈ wsL_law := rin_19 _ (List.mem_of_getElem? (i := 16) rfl)
theorem wa_int : Cond.arrayClass .int ∈ wsL_law := rin_2 _ (List.mem_of_getElem? (i := 11) rfl)
theorem wa_boolean : Cond.arrayClass .boolean ∈ wsL_law := rin_5 _ (List.mem_of_getElem? (i := 9) rfl)
theorem wa_long : Cond.arrayClass .long ∈ wsL_law := rin_1 _ (List.mem_of_getElem? (i := 6) rfl)
abbrev nf_X8 : List Value := [.int 0, .int 0, .int 0, .int 0]
theorem nw_RX1_9 : NW RX1 9 8 nf_X8 := ⟨_, rfl, rin_3 _ (List.mem_of_getElem? (i := 21) rfl), rin_3 _ (List.mem_of_getElem? (i := 22) rfl), rin_3 _ (List.mem_of_getElem? (i := 23) rfl), rfl, tyX8, tyX8_ok, fun j hj base b => match j, hj with
  | 0, _ => rfl
  | 1, _ => rfl
  | 2, _ => rfl
  | 3, _ => rfl
  | n + 4, h => absurd (show n + 4 < 4 from h) (by omega)⟩
theorem wn_RX1_42 : Cond.classLink RX1 42 RX0 ∈ wsL_law := rin_4 _ (List.mem_of_getElem? (i := 8) rfl)
abbrev nf_X0 : List Value := [.int 0, .int 0, .int 0, .int 0]
theorem nw_RX1_42 : NW RX1 42 0 nf_X0 := ⟨_, rfl, rin_4 _ (List.mem_of_getElem? (i := 8) rfl), rin_4 _ (List.mem_of_getElem? (i := 10) rfl), rin_4 _ (List.mem_of_getElem? (i := 11) rfl), rfl, tyX0, tyX0_ok, fun j hj base b => match j, hj with
  | 0, _ => rfl
  | 1, _ => rfl
  | 2, _ => rfl
  | 3, _ => rfl
  | n + 4, h => absurd (show n + 4 < 4 from h) (by omega)⟩
abbrev nf_X3 : List Value := [.int 0, .int 0, .int 0, .int 0, .int 0, .int 0, .int 0, .int 0, .int 0, .int 0, .null]
theorem nw_RX4_18 : NW RX4 18 3 nf_X3 := ⟨_, rfl, rin_3 _ (List.mem_of_getElem? (i := 9) rfl), rin_3 _ (List.mem_of_getElem? (i := 10) rfl), rin_3 _ (List.mem_of_getElem? (i := 11) rfl), rfl, tyX3, tyX3_ok, fun j hj base b => match j, hj with
  | 0, _ => rfl
  | 1, _ => rfl
  | 2, _ => rfl
  | 3, _ => rfl
  | 4, _ => rfl
  | 5, _ => rfl
  | 6, _ => rfl
  | 7, _ => rfl
  | 8, _ => rfl
  | 9, _ => rfl
  | 10, _ => rfl
  | n + 11, h => absurd (show n + 11 < 11 from h) (by omega)⟩
theorem wn_RX6_11 : Cond.classLink RX6 11 RX5 ∈ wsL_law := rin_2 _ (List.mem_of_getElem? (i := 9) rfl)
abbrev nf_X5 : List Value := [.int 0, .int 0, .int 0, .int 0, .int 0, .int 0]
theorem nw_RX6_11 : NW RX6 11 5 nf_X5 := ⟨_, rfl, rin_2 _ (List.mem_of_getElem? (i := 9) rfl), rin_2 _ (List.mem_of_getElem? (i := 13) rfl), rin_2 _ (List.mem_of_getElem? (i := 14) rfl), rfl, tyX5, tyX5_ok, fun j hj base b => match j, hj with
  | 0, _ => rfl
  | 1, _ => rfl
  | 2, _ => rfl
  | 3, _ => rfl
  | 4, _ => rfl
  | 5, _ => rfl
  | n + 6, h => absurd (show n + 6 < 6 from h) (by omega)⟩
theorem wn_RX7_19 : Cond.classLink RX7 19 RX4 ∈ wsL_law := rin_3 _ (List.mem_of_getElem? (i := 0) rfl)
abbrev nf_X4 : List Value := [.int 0, .int 0, .int 0, .int 0, .int 0, .int 0, .int 0, .int 0, .int 0, .int 0, .null]
theorem nw_RX7_19 : NW RX7 19 4 nf_X4 := ⟨_, rfl, rin_3 _ (List.mem_of_getElem? (i := 0) rfl), rin_3 _ (List.mem_of_getElem? (i := 2) rfl), rin_3 _ (List.mem_of_getElem? (i := 3) rfl), rfl, tyX4, tyX4_ok, fun j hj base b => match j, hj with
  | 0, _ => rfl
  | 1, _ => rfl
  | 2, _ => rfl
  | 3, _ => rfl
  | 4, _ => rfl
  | 5, _ => rfl
  | 6, _ => rfl
  | 7, _ => rfl
  | 8, _ => rfl
  | 9, _ => rfl
  | 10, _ => rfl
  | n + 11, h => absurd (show n + 11 < 11 from h) (by omega)⟩
abbrev nf_X6 : List Value := [.null, .null, .int 0, .int 0]
theorem nw_RX9_7 : NW RX9 7 6 nf_X6 := ⟨_, rfl, rin_1 _ (List.mem_of_getElem? (i := 13) rfl), rin_1 _ (List.mem_of_getElem? (i := 14) rfl), rin_1 _ (List.mem_of_getElem? (i := 15) rfl), rfl, tyX6, tyX6_ok, fun j hj base b => match j, hj with
  | 0, _ => rfl
  | 1, _ => rfl
  | 2, _ => rfl
  | 3, _ => rfl
  | n + 4, h => absurd (show n + 4 < 4 from h) (by omega)⟩
theorem wn_RX9_16 : Cond.classLink RX9 16 RX7 ∈ wsL_law := rin_1 _ (List.mem_of_getElem? (i := 17) rfl)
theorem wn_RX9_22 : Cond.classLink RX9 22 RX1 ∈ wsL_law := rin_1 _ (List.mem_of_getElem? (i := 19) rfl)
theorem wn_RX9_28 : Cond.classLink RX9 28 RX2 ∈ wsL_law := rin_1 _ (List.mem_of_getElem? (i := 21) rfl)
abbrev nf_X7 : List Value := [.null, .int 0, .null]
theorem nw_RX9_16 : NW RX9 16 7 nf_X7 := ⟨_, rfl, rin_1 _ (List.mem_of_getElem? (i := 17) rfl), rin_1 _ (List.mem_of_getElem? (i := 23) rfl), rin_2 _ (List.mem_of_getElem? (i := 0) rfl), rfl, tyX7, tyX7_ok, fun j hj base b => match j, hj with
  | 0, _ => rfl
  | 1, _ => rfl
  | 2, _ => rfl
  | n + 3, h => absurd (show n + 3 < 3 from h) (by omega)⟩
abbrev nf_X1 : List Value := [.null, .null, .null, .null, .null, .int 0, .int 0, .int 0, .int 0, .int 0, .int 0]
theorem nw_RX9_22 : NW RX9 22 1 nf_X1 := ⟨_, rfl, rin_1 _ (List.mem_of_getElem? (i := 19) rfl), rin_2 _ (List.mem_of_getElem? (i := 1) rfl), rin_2 _ (List.mem_of_getElem? (i := 2) rfl), rfl, tyX1, tyX1_ok, fun j hj base b => match j, hj with
  | 0, _ => rfl
  | 1, _ => rfl
  | 2, _ => rfl
  | 3, _ => rfl
  | 4, _ => rfl
  | 5, _ => rfl
  | 6, _ => rfl
  | 7, _ => rfl
  | 8, _ => rfl
  | 9, _ => rfl
  | 10, _ => rfl
  | n + 11, h => absurd (show n + 11 < 11 from h) (by omega)⟩
abbrev nf_X2 : List Value := [.null, .null, .int 0, .int 0, .int 0, .int 0, .long 0]
theorem nw_RX9_28 : NW RX9 28 2 nf_X2 := ⟨_, rfl, rin_1 _ (List.mem_of_getElem? (i := 21) rfl), rin_2 _ (List.mem_of_getElem? (i := 3) rfl), rin_2 _ (List.mem_of_getElem? (i := 4) rfl), rfl, tyX2, tyX2_ok, fun j hj base b => match j, hj with
  | 0, _ => rfl
  | 1, _ => rfl
  | 2, _ => rfl
  | 3, _ => rfl
  | 4, _ => rfl
  | 5, _ => rfl
  | 6, _ => rfl
  | n + 7, h => absurd (show n + 7 < 7 from h) (by omega)⟩
abbrev nf_X9 : List Value := [.null, .null, .null, .null, .int 0]
theorem nw_RL_8 : NW RL 8 9 nf_X9 := ⟨_, rfl, rin_1 _ (List.mem_of_getElem? (i := 0) rfl), rin_1 _ (List.mem_of_getElem? (i := 1) rfl), rin_1 _ (List.mem_of_getElem? (i := 2) rfl), rfl, tyX9, tyX9_ok, fun j hj base b => match j, hj with
  | 0, _ => rfl
  | 1, _ => rfl
  | 2, _ => rfl
  | 3, _ => rfl
  | 4, _ => rfl
  | n + 5, h => absurd (show n + 5 < 5 from h) (by omega)⟩
abbrev nf_X10 : List Value := [.int 0, .int 0, .int 0, .int 0, .null, .null, .null, .null, .null, .null, .null, .null, .null, .null, .null, .null, .null, .null, .null, .null, .null, .null, .null, .null, .null, .null, .null, .null, .null, .null, .null, .null, .null, .null, .null, .null, .null, .null, .null, .int 0, .null, .null, .null, .null, .null, .null, .null, .null, .null, .null]
theorem nw_RL_77 : NW RL 77 10 nf_X10 := ⟨_, rfl, rin_1 _ (List.mem_of_getElem? (i := 3) rfl), rin_1 _ (List.mem_of_getElem? (i := 4) rfl), rin_1 _ (List.mem_of_getElem? (i := 5) rfl), rfl, tyX10, tyX10_ok, fun j hj base b => match j, hj with
  | 0, _ => rfl
  | 1, _ => rfl
  | 2, _ => rfl
  | 3, _ => rfl
  | 4, _ => rfl
  | 5, _ => rfl
  | 6, _ => rfl
  | 7, _ => rfl
  | 8, _ => rfl
  | 9, _ => rfl
  | 10, _ => rfl
  | 11, _ => rfl
  | 12, _ => rfl
  | 13, _ => rfl
  | 14, _ => rfl
  | 15, _ => rfl
  | 16, _ => rfl
  | 17, _ => rfl
  | 18, _ => rfl
  | 19, _ => rfl
  | 20, _ => rfl
  | 21, _ => rfl
  | 22, _ => rfl
  | 23, _ => rfl
  | 24, _ => rfl
  | 25, _ => rfl
  | 26, _ => rfl
  | 27, _ => rfl
  | 28, _ => rfl
  | 29, _ => rfl
  | 30, _ => rfl
  | 31, _ => rfl
  | 32, _ => rfl
  | 33, _ => rfl
  | 34, _ => rfl
  | 35, _ => rfl
  | 36, _ => rfl
  | 37, _ => rfl
  | 38, _ => rfl
  | 39, _ => rfl
  | 40, _ => rfl
  | 41, _ => rfl
  | 42, _ => rfl
  | 43, _ => rfl
  | 44, _ => rfl
  | 45, _ => rfl
  | 46, _ => rfl
  | 47, _ => rfl
  | 48, _ => rfl
  | 49, _ => rfl
  | n + 50, h => absurd (show n + 50 < 50 from h) (by omega)⟩
theorem th_eN : TH RX9 217 219 eN := ⟨by decide +kernel, rin_7 _ (List.mem_of_getElem? (i := 20) rfl), rin_7 _ (List.mem_of_getElem? (i := 21) rfl), fun w h => (List.mem_append_left _ (List.mem_append_left _ (List.mem_append_left _ (List.mem_append_left _ (List.mem_append_right _ h))))), by decide +kernel, by decide +kernel⟩
theorem th_eA : TH RX9 220 222 eA := ⟨by decide +kernel, rin_8 _ (List.mem_of_getElem? (i := 1) rfl), rin_8 _ (List.mem_of_getElem? (i := 2) rfl), fun w h => (List.mem_append_left _ (List.mem_append_left _ (List.mem_append_left _ (List.mem_append_right _ h)))), by decide +kernel, by decide +kernel⟩
theorem th_eS : TH RX9 226 228 eS := ⟨by decide +kernel, rin_14 _ (List.mem_of_getElem? (i := 13) rfl), rin_14 _ (List.mem_of_getElem? (i := 14) rfl), fun w h => (List.mem_append_left _ (List.mem_append_left _ (List.mem_append_right _ h))), by decide +kernel, by decide +kernel⟩
theorem th_eU : TH RX9 119 121 eU := ⟨by decide +kernel, rin_16 _ (List.mem_of_getElem? (i := 14) rfl), rin_16 _ (List.mem_of_getElem? (i := 15) rfl), fun w h => (List.mem_append_left _ (List.mem_append_right _ h)), by decide +kernel, by decide +kernel⟩
theorem th_eI : TH RX9 223 225 eI := ⟨by decide +kernel, rin_18 _ (List.mem_of_getElem? (i := 2) rfl), rin_18 _ (List.mem_of_getElem? (i := 3) rfl), fun w h => (List.mem_append_right _ h), by decide +kernel, by decide +kernel⟩
theorem wc_13 : Cond.classLink RL 13 "java/util/NoSuchElementException" ∈ wsL_law := rin_7 _ (List.mem_of_getElem? (i := 10) rfl)
theorem wc_15 : Cond.classLink RL 15 "java/lang/IllegalArgumentException" ∈ wsL_law := rin_7 _ (List.mem_of_getElem? (i := 11) rfl)
theorem wc_29 : Cond.classLink RL 29 "java/lang/IllegalStateException" ∈ wsL_law := rin_13 _ (List.mem_of_getElem? (i := 22) rfl)
theorem wc_42 : Cond.classLink RL 42 "java/lang/UnsupportedOperationException" ∈ wsL_law := rin_16 _ (List.mem_of_getElem? (i := 9) rfl)
theorem wc_48 : Cond.classLink RL 48 "java/lang/IndexOutOfBoundsException" ∈ wsL_law := rin_17 _ (List.mem_of_getElem? (i := 14) rfl)
