/-! one list of words for every method: the law's; a method's own words are its code and that list -/
theorem LG : wsL_law.all goodWord = true := by decide +kernel
theorem wr_wsL_law_r1 : ∀ w ∈ wsL_law_r1, w ∈ wsL_law := fun w h => (List.mem_append_left _ (List.mem_append_left _ (List.mem_append_left _ (List.mem_append_left _ (List.mem_append_left _ (List.mem_append_left _ (List.mem_append_left _ h)))))))
theorem wr_wsL_law_r2 : ∀ w ∈ wsL_law_r2, w ∈ wsL_law := fun w h => (List.mem_append_left _ (List.mem_append_left _ (List.mem_append_left _ (List.mem_append_left _ (List.mem_append_left _ (List.mem_append_left _ (List.mem_append_right _ (List.mem_append_left _ h))))))))
theorem wr_wsL_law_r3 : ∀ w ∈ wsL_law_r3, w ∈ wsL_law := fun w h => (List.mem_append_left _ (List.mem_append_left _ (List.mem_append_left _ (List.mem_append_left _ (List.mem_append_left _ (List.mem_append_left _ (List.mem_append_right _ (List.mem_append_right _ (List.mem_append_left _ h)))))))))
theorem wr_wsL_law_r4 : ∀ w ∈ wsL_law_r4, w ∈ wsL_law := fun w h => (List.mem_append_left _ (List.mem_append_left _ (List.mem_append_left _ (List.mem_append_left _ (List.mem_append_left _ (List.mem_append_left _ (List.mem_append_right _ (List.mem_append_right _ (List.mem_append_right _ (List.mem_append_left _ h))))))))))
theorem wr_wsL_law_r5 : ∀ w ∈ wsL_law_r5, w ∈ wsL_law := fun w h => (List.mem_append_left _ (List.mem_append_left _ (List.mem_append_left _ (List.mem_append_left _ (List.mem_append_left _ (List.mem_append_left _ (List.mem_append_right _ (List.mem_append_right _ (List.mem_append_right _ (List.mem_append_right _ (List.mem_append_left _ h)))))))))))
theorem wr_wsL_law_r6 : ∀ w ∈ wsL_law_r6, w ∈ wsL_law := fun w h => (List.mem_append_left _ (List.mem_append_left _ (List.mem_append_left _ (List.mem_append_left _ (List.mem_append_left _ (List.mem_append_left _ (List.mem_append_right _ (List.mem_append_right _ (List.mem_append_right _ (List.mem_append_right _ (List.mem_append_right _ (List.mem_append_left _ h))))))))))))
theorem wr_wsL_law_r7 : ∀ w ∈ wsL_law_r7, w ∈ wsL_law := fun w h => (List.mem_append_left _ (List.mem_append_left _ (List.mem_append_left _ (List.mem_append_left _ (List.mem_append_left _ (List.mem_append_left _ (List.mem_append_right _ (List.mem_append_right _ (List.mem_append_right _ (List.mem_append_right _ (List.mem_append_right _ (List.mem_append_right _ (List.mem_append_left _ h)))))))))))))
theorem wr_wsL_law_r8 : ∀ w ∈ wsL_law_r8, w ∈ wsL_law := fun w h => (List.mem_append_left _ (List.mem_append_left _ (List.mem_append_left _ (List.mem_append_left _ (List.mem_append_left _ (List.mem_append_left _ (List.mem_append_right _ (List.mem_append_right _ (List.mem_append_right _ (List.mem_append_right _ (List.mem_append_right _ (List.mem_append_right _ (List.mem_append_right _ (List.mem_append_left _ h))))))))))))))
theorem wr_wsL_law_r9 : ∀ w ∈ wsL_law_r9, w ∈ wsL_law := fun w h => (List.mem_append_left _ (List.mem_append_left _ (List.mem_append_left _ (List.mem_append_left _ (List.mem_append_left _ (List.mem_append_left _ (List.mem_append_right _ (List.mem_append_right _ (List.mem_append_right _ (List.mem_append_right _ (List.mem_append_right _ (List.mem_append_right _ (List.mem_append_right _ (List.mem_append_right _ (List.mem_append_left _ h)))))))))))))))
theorem wr_wsL_law_r10 : ∀ w ∈ wsL_law_r10, w ∈ wsL_law := fun w h => (List.mem_append_left _ (List.mem_append_left _ (List.mem_append_left _ (List.mem_append_left _ (List.mem_append_left _ (List.mem_append_left _ (List.mem_append_right _ (List.mem_append_right _ (List.mem_append_right _ (List.mem_append_right _ (List.mem_append_right _ (List.mem_append_right _ (List.mem_append_right _ (List.mem_append_right _ (List.mem_append_right _ (List.mem_append_left _ h))))))))))))))))
theorem wr_wsL_law_r11 : ∀ w ∈ wsL_law_r11, w ∈ wsL_law := fun w h => (List.mem_append_left _ (List.mem_append_left _ (List.mem_append_left _ (List.mem_append_left _ (List.mem_append_left _ (List.mem_append_left _ (List.mem_append_right _ (List.mem_append_right _ (List.mem_append_right _ (List.mem_append_right _ (List.mem_append_right _ (List.mem_append_right _ (List.mem_append_right _ (List.mem_append_right _ (List.mem_append_right _ (List.mem_append_right _ (List.mem_append_left _ h)))))))))))))))))
theorem wr_wsL_law_r12 : ∀ w ∈ wsL_law_r12, w ∈ wsL_law := fun w h => (List.mem_append_left _ (List.mem_append_left _ (List.mem_append_left _ (List.mem_append_left _ (List.mem_append_left _ (List.mem_append_left _ (List.mem_append_right _ (List.mem_append_right _ (List.mem_append_right _ (List.mem_append_right _ (List.mem_append_right _ (List.mem_append_right _ (List.mem_append_right _ (List.mem_append_right _ (List.mem_append_right _ (List.mem_append_right _ (List.mem_append_right _ (List.mem_append_left _ h))))))))))))))))))
theorem wr_wsL_law_r13 : ∀ w ∈ wsL_law_r13, w ∈ wsL_law := fun w h => (List.mem_append_left _ (List.mem_append_left _ (List.mem_append_left _ (List.mem_append_left _ (List.mem_append_left _ (List.mem_append_left _ (List.mem_append_right _ (List.mem_append_right _ (List.mem_append_right _ (List.mem_append_right _ (List.mem_append_right _ (List.mem_append_right _ (List.mem_append_right _ (List.mem_append_right _ (List.mem_append_right _ (List.mem_append_right _ (List.mem_append_right _ (List.mem_append_right _ (List.mem_append_left _ h)))))))))))))))))))
theorem wr_wsL_law_r14 : ∀ w ∈ wsL_law_r14, w ∈ wsL_law := fun w h => (List.mem_append_left _ (List.mem_append_left _ (List.mem_append_left _ (List.mem_append_left _ (List.mem_append_left _ (List.mem_append_left _ (List.mem_append_right _ (List.mem_append_right _ (List.mem_append_right _ (List.mem_append_right _ (List.mem_append_right _ (List.mem_append_right _ (List.mem_append_right _ (List.mem_append_right _ (List.mem_append_right _ (List.mem_append_right _ (List.mem_append_right _ (List.mem_append_right _ (List.mem_append_right _ (List.mem_append_left _ h))))))))))))))))))))
theorem wr_wsL_law_r15 : ∀ w ∈ wsL_law_r15, w ∈ wsL_law := fun w h => (List.mem_append_left _ (List.mem_append_left _ (List.mem_append_left _ (List.mem_append_left _ (List.mem_append_left _ (List.mem_append_left _ (List.mem_append_right _ (List.mem_append_right _ (List.mem_append_right _ (List.mem_append_right _ (List.mem_append_right _ (List.mem_append_right _ (List.mem_append_right _ (List.mem_append_right _ (List.mem_append_right _ (List.mem_append_right _ (List.mem_append_right _ (List.mem_append_right _ (List.mem_append_right _ (List.mem_append_right _ (List.mem_append_left _ h)))))))))))))))))))))
theorem wr_wsL_law_r16 : ∀ w ∈ wsL_law_r16, w ∈ wsL_law := fun w h => (List.mem_append_left _ (List.mem_append_left _ (List.mem_append_left _ (List.mem_append_left _ (List.mem_append_left _ (List.mem_append_left _ (List.mem_append_right _ (List.mem_append_right _ (List.mem_append_right _ (List.mem_append_right _ (List.mem_append_right _ (List.mem_append_right _ (List.mem_append_right _ (List.mem_append_right _ (List.mem_append_right _ (List.mem_append_right _ (List.mem_append_right _ (List.mem_append_right _ (List.mem_append_right _ (List.mem_append_right _ (List.mem_append_right _ (List.mem_append_left _ h))))))))))))))))))))))
theorem wr_wsL_law_r17 : ∀ w ∈ wsL_law_r17, w ∈ wsL_law := fun w h => (List.mem_append_left _ (List.mem_append_left _ (List.mem_append_left _ (List.mem_append_left _ (List.mem_append_left _ (List.mem_append_left _ (List.mem_append_right _ (List.mem_append_right _ (List.mem_append_right _ (List.mem_append_right _ (List.mem_append_right _ (List.mem_append_right _ (List.mem_append_right _ (List.mem_append_right _ (List.mem_append_right _ (List.mem_append_right _ (List.mem_append_right _ (List.mem_append_right _ (List.mem_append_right _ (List.mem_append_right _ (List.mem_append_right _ (List.mem_append_right _ (List.mem_append_left _ h)))))))))))))))))))))))
theorem wr_wsL_law_r18 : ∀ w ∈ wsL_law_r18, w ∈ wsL_law := fun w h => (List.mem_append_left _ (List.mem_append_left _ (List.mem_append_left _ (List.mem_append_left _ (List.mem_append_left _ (List.mem_append_left _ (List.mem_append_right _ (List.mem_append_right _ (List.mem_append_right _ (List.mem_append_right _ (List.mem_append_right _ (List.mem_append_right _ (List.mem_append_right _ (List.mem_append_right _ (List.mem_append_right _ (List.mem_append_right _ (List.mem_append_right _ (List.mem_append_right _ (List.mem_append_right _ (List.mem_append_right _ (List.mem_append_right _ (List.mem_append_right _ (List.mem_append_right _ (List.mem_append_left _ h))))))))))))))))))))))))
theorem wr_wsL_law_r19 : ∀ w ∈ wsL_law_r19, w ∈ wsL_law := fun w h => (List.mem_append_left _ (List.mem_append_left _ (List.mem_append_left _ (List.mem_append_left _ (List.mem_append_left _ (List.mem_append_left _ (List.mem_append_right _ (List.mem_append_right _ (List.mem_append_right _ (List.mem_append_right _ (List.mem_append_right _ (List.mem_append_right _ (List.mem_append_right _ (List.mem_append_right _ (List.mem_append_right _ (List.mem_append_right _ (List.mem_append_right _ (List.mem_append_right _ (List.mem_append_right _ (List.mem_append_right _ (List.mem_append_right _ (List.mem_append_right _ (List.mem_append_right _ (List.mem_append_right _ (List.mem_append_left _ h)))))))))))))))))))))))))
theorem wr_wsL_law_r20 : ∀ w ∈ wsL_law_r20, w ∈ wsL_law := fun w h => (List.mem_append_left _ (List.mem_append_left _ (List.mem_append_left _ (List.mem_append_left _ (List.mem_append_left _ (List.mem_append_left _ (List.mem_append_right _ (List.mem_append_right _ (List.mem_append_right _ (List.mem_append_right _ (List.mem_append_right _ (List.mem_append_right _ (List.mem_append_right _ (List.mem_append_right _ (List.mem_append_right _ (List.mem_append_right _ (List.mem_append_right _ (List.mem_append_right _ (List.mem_append_right _ (List.mem_append_right _ (List.mem_append_right _ (List.mem_append_right _ (List.mem_append_right _ (List.mem_append_right _ (List.mem_append_right _ (List.mem_append_left _ h))))))))))))))))))))))))))
theorem wr_wsL_law_r21 : ∀ w ∈ wsL_law_r21, w ∈ wsL_law := fun w h => (List.mem_append_left _ (List.mem_append_left _ (List.mem_append_left _ (List.mem_append_left _ (List.mem_append_left _ (List.mem_append_left _ (List.mem_append_right _ (List.mem_append_right _ (List.mem_append_right _ (List.mem_append_right _ (List.mem_append_right _ (List.mem_append_right _ (List.mem_append_right _ (List.mem_append_right _ (List.mem_append_right _ (List.mem_append_right _ (List.mem_append_right _ (List.mem_append_right _ (List.mem_append_right _ (List.mem_append_right _ (List.mem_append_right _ (List.mem_append_right _ (List.mem_append_right _ (List.mem_append_right _ (List.mem_append_right _ (List.mem_append_right _ (List.mem_append_left _ h)))))))))))))))))))))))))))
theorem wr_wsL_law_r22 : ∀ w ∈ wsL_law_r22, w ∈ wsL_law := fun w h => (List.mem_append_left _ (List.mem_append_left _ (List.mem_append_left _ (List.mem_append_left _ (List.mem_append_left _ (List.mem_append_left _ (List.mem_append_right _ (List.mem_append_right _ (List.mem_append_right _ (List.mem_append_right _ (List.mem_append_right _ (List.mem_append_right _ (List.mem_append_right _ (List.mem_append_right _ (List.mem_append_right _ (List.mem_append_right _ (List.mem_append_right _ (List.mem_append_right _ (List.mem_append_right _ (List.mem_append_right _ (List.mem_append_right _ (List.mem_append_right _ (List.mem_append_right _ (List.mem_append_right _ (List.mem_append_right _ (List.mem_append_right _ (List.mem_append_right _ (List.mem_append_left _ h))))))))))))))))))))))))))))
theorem wr_wsL_law_r23 : ∀ w ∈ wsL_law_r23, w ∈ wsL_law := fun w h => (List.mem_append_left _ (List.mem_append_left _ (List.mem_append_left _ (List.mem_append_left _ (List.mem_append_left _ (List.mem_append_left _ (List.mem_append_right _ (List.mem_append_right _ (List.mem_append_right _ (List.mem_append_right _ (List.mem_append_right _ (List.mem_append_right _ (List.mem_append_right _ (List.mem_append_right _ (List.mem_append_right _ (List.mem_append_right _ (List.mem_append_right _ (List.mem_append_right _ (List.mem_append_right _ (List.mem_append_right _ (List.mem_append_right _ (List.mem_append_right _ (List.mem_append_right _ (List.mem_append_right _ (List.mem_append_right _ (List.mem_append_right _ (List.mem_append_right _ (List.mem_append_right _ (List.mem_append_left _ h)))))))))))))))))))))))))))))
theorem wr_wsL_law_r24 : ∀ w ∈ wsL_law_r24, w ∈ wsL_law := fun w h => (List.mem_append_left _ (List.mem_append_left _ (List.mem_append_left _ (List.mem_append_left _ (List.mem_append_left _ (List.mem_append_left _ (List.mem_append_right _ (List.mem_append_right _ (List.mem_append_right _ (List.mem_append_right _ (List.mem_append_right _ (List.mem_append_right _ (List.mem_append_right _ (List.mem_append_right _ (List.mem_append_right _ (List.mem_append_right _ (List.mem_append_right _ (List.mem_append_right _ (List.mem_append_right _ (List.mem_append_right _ (List.mem_append_right _ (List.mem_append_right _ (List.mem_append_right _ (List.mem_append_right _ (List.mem_append_right _ (List.mem_append_right _ (List.mem_append_right _ (List.mem_append_right _ (List.mem_append_right _ (List.mem_append_left _ h))))))))))))))))))))))))))))))
theorem wr_wsL_law_r25 : ∀ w ∈ wsL_law_r25, w ∈ wsL_law := fun w h => (List.mem_append_left _ (List.mem_append_left _ (List.mem_append_left _ (List.mem_append_left _ (List.mem_append_left _ (List.mem_append_left _ (List.mem_append_right _ (List.mem_append_right _ (List.mem_append_right _ (List.mem_append_right _ (List.mem_append_right _ (List.mem_append_right _ (List.mem_append_right _ (List.mem_append_right _ (List.mem_append_right _ (List.mem_append_right _ (List.mem_append_right _ (List.mem_append_right _ (List.mem_append_right _ (List.mem_append_right _ (List.mem_append_right _ (List.mem_append_right _ (List.mem_append_right _ (List.mem_append_right _ (List.mem_append_right _ (List.mem_append_right _ (List.mem_append_right _ (List.mem_append_right _ (List.mem_append_right _ (List.mem_append_right _ (List.mem_append_left _ h)))))))))))))))))))))))))))))))
theorem wr_wsL_law_r26 : ∀ w ∈ wsL_law_r26, w ∈ wsL_law := fun w h => (List.mem_append_left _ (List.mem_append_left _ (List.mem_append_left _ (List.mem_append_left _ (List.mem_append_left _ (List.mem_append_left _ (List.mem_append_right _ (List.mem_append_right _ (List.mem_append_right _ (List.mem_append_right _ (List.mem_append_right _ (List.mem_append_right _ (List.mem_append_right _ (List.mem_append_right _ (List.mem_append_right _ (List.mem_append_right _ (List.mem_append_right _ (List.mem_append_right _ (List.mem_append_right _ (List.mem_append_right _ (List.mem_append_right _ (List.mem_append_right _ (List.mem_append_right _ (List.mem_append_right _ (List.mem_append_right _ (List.mem_append_right _ (List.mem_append_right _ (List.mem_append_right _ (List.mem_append_right _ (List.mem_append_right _ (List.mem_append_right _ (List.mem_append_left _ h))))))))))))))))))))))))))))))))
theorem wr_wsL_law_r27 : ∀ w ∈ wsL_law_r27, w ∈ wsL_law := fun w h => (List.mem_append_left _ (List.mem_append_left _ (List.mem_append_left _ (List.mem_append_left _ (List.mem_append_left _ (List.mem_append_left _ (List.mem_append_right _ (List.mem_append_right _ (List.mem_append_right _ (List.mem_append_right _ (List.mem_append_right _ (List.mem_append_right _ (List.mem_append_right _ (List.mem_append_right _ (List.mem_append_right _ (List.mem_append_right _ (List.mem_append_right _ (List.mem_append_right _ (List.mem_append_right _ (List.mem_append_right _ (List.mem_append_right _ (List.mem_append_right _ (List.mem_append_right _ (List.mem_append_right _ (List.mem_append_right _ (List.mem_append_right _ (List.mem_append_right _ (List.mem_append_right _ (List.mem_append_right _ (List.mem_append_right _ (List.mem_append_right _ (List.mem_append_right _ (List.mem_append_left _ h)))))))))))))))))))))))))))))))))
theorem wr_wsL_law_r28 : ∀ w ∈ wsL_law_r28, w ∈ wsL_law := fun w h => (List.mem_append_left _ (List.mem_append_left _ (List.mem_append_left _ (List.mem_append_left _ (List.mem_append_left _ (List.mem_append_left _ (List.mem_append_right _ (List.mem_append_right _ (List.mem_append_right _ (List.mem_append_right _ (List.mem_append_right _ (List.mem_append_right _ (List.mem_append_right _ (List.mem_append_right _ (List.mem_append_right _ (List.mem_append_right _ (List.mem_append_right _ (List.mem_append_right _ (List.mem_append_right _ (List.mem_append_right _ (List.mem_append_right _ (List.mem_append_right _ (List.mem_append_right _ (List.mem_append_right _ (List.mem_append_right _ (List.mem_append_right _ (List.mem_append_right _ (List.mem_append_right _ (List.mem_append_right _ (List.mem_append_right _ (List.mem_append_right _ (List.mem_append_right _ (List.mem_append_right _ (List.mem_append_left _ h))))))))))))))))))))))))))))))))))
theorem wr_wsL_law_r29 : ∀ w ∈ wsL_law_r29, w ∈ wsL_law := fun w h => (List.mem_append_left _ (List.mem_append_left _ (List.mem_append_left _ (List.mem_append_left _ (List.mem_append_left _ (List.mem_append_left _ (List.mem_append_right _ (List.mem_append_right _ (List.mem_append_right _ (List.mem_append_right _ (List.mem_append_right _ (List.mem_append_right _ (List.mem_append_right _ (List.mem_append_right _ (List.mem_append_right _ (List.mem_append_right _ (List.mem_append_right _ (List.mem_append_right _ (List.mem_append_right _ (List.mem_append_right _ (List.mem_append_right _ (List.mem_append_right _ (List.mem_append_right _ (List.mem_append_right _ (List.mem_append_right _ (List.mem_append_right _ (List.mem_append_right _ (List.mem_append_right _ (List.mem_append_right _ (List.mem_append_right _ (List.mem_append_right _ (List.mem_append_right _ (List.mem_append_right _ (List.mem_append_right _ (List.mem_append_left _ h)))))))))))))))))))))))))))))))))))
theorem wr_wsL_law_r30 : ∀ w ∈ wsL_law_r30, w ∈ wsL_law := fun w h => (List.mem_append_left _ (List.mem_append_left _ (List.mem_append_left _ (List.mem_append_left _ (List.mem_append_left _ (List.mem_append_left _ (List.mem_append_right _ (List.mem_append_right _ (List.mem_append_right _ (List.mem_append_right _ (List.mem_append_right _ (List.mem_append_right _ (List.mem_append_right _ (List.mem_append_right _ (List.mem_append_right _ (List.mem_append_right _ (List.mem_append_right _ (List.mem_append_right _ (List.mem_append_right _ (List.mem_append_right _ (List.mem_append_right _ (List.mem_append_right _ (List.mem_append_right _ (List.mem_append_right _ (List.mem_append_right _ (List.mem_append_right _ (List.mem_append_right _ (List.mem_append_right _ (List.mem_append_right _ (List.mem_append_right _ (List.mem_append_right _ (List.mem_append_right _ (List.mem_append_right _ (List.mem_append_right _ (List.mem_append_right _ (List.mem_append_left _ h))))))))))))))))))))))))))))))))))))
theorem wr_wsL_law_r31 : ∀ w ∈ wsL_law_r31, w ∈ wsL_law := fun w h => (List.mem_append_left _ (List.mem_append_left _ (List.mem_append_left _ (List.mem_append_left _ (List.mem_append_left _ (List.mem_append_left _ (List.mem_append_right _ (List.mem_append_right _ (List.mem_append_right _ (List.mem_append_right _ (List.mem_append_right _ (List.mem_append_right _ (List.mem_append_right _ (List.mem_append_right _ (List.mem_append_right _ (List.mem_append_right _ (List.mem_append_right _ (List.mem_append_right _ (List.mem_append_right _ (List.mem_append_right _ (List.mem_append_right _ (List.mem_append_right _ (List.mem_append_right _ (List.mem_append_right _ (List.mem_append_right _ (List.mem_append_right _ (List.mem_append_right _ (List.mem_append_right _ (List.mem_append_right _ (List.mem_append_right _ (List.mem_append_right _ (List.mem_append_right _ (List.mem_append_right _ (List.mem_append_right _ (List.mem_append_right _ (List.mem_append_right _ (List.mem_append_left _ h)))))))))))))))))))))))))))))))))))))
theorem wr_wsL_law_r32 : ∀ w ∈ wsL_law_r32, w ∈ wsL_law := fun w h => (List.mem_append_left _ (List.mem_append_left _ (List.mem_append_left _ (List.mem_append_left _ (List.mem_append_left _ (List.mem_append_left _ (List.mem_append_right _ (List.mem_append_right _ (List.mem_append_right _ (List.mem_append_right _ (List.mem_append_right _ (List.mem_append_right _ (List.mem_append_right _ (List.mem_append_right _ (List.mem_append_right _ (List.mem_append_right _ (List.mem_append_right _ (List.mem_append_right _ (List.mem_append_right _ (List.mem_append_right _ (List.mem_append_right _ (List.mem_append_right _ (List.mem_append_right _ (List.mem_append_right _ (List.mem_append_right _ (List.mem_append_right _ (List.mem_append_right _ (List.mem_append_right _ (List.mem_append_right _ (List.mem_append_right _ (List.mem_append_right _ (List.mem_append_right _ (List.mem_append_right _ (List.mem_append_right _ (List.mem_append_right _ (List.mem_append_right _ (List.mem_append_right _ (List.mem_append_left _ h))))))))))))))))))))))))))))))))))))))
theorem wr_wsL_law_r33 : ∀ w ∈ wsL_law_r33, w ∈ wsL_law := fun w h => (List.mem_append_left _ (List.mem_append_left _ (List.mem_append_left _ (List.mem_append_left _ (List.mem_append_left _ (List.mem_append_left _ (List.mem_append_right _ (List.mem_append_right _ (List.mem_append_right _ (List.mem_append_right _ (List.mem_append_right _ (List.mem_append_right _ (List.mem_append_right _ (List.mem_append_right _ (List.mem_append_right _ (List.mem_append_right _ (List.mem_append_right _ (List.mem_append_right _ (List.mem_append_right _ (List.mem_append_right _ (List.mem_append_right _ (List.mem_append_right _ (List.mem_append_right _ (List.mem_append_right _ (List.mem_append_right _ (List.mem_append_right _ (List.mem_append_right _ (List.mem_append_right _ (List.mem_append_right _ (List.mem_append_right _ (List.mem_append_right _ (List.mem_append_right _ (List.mem_append_right _ (List.mem_append_right _ (List.mem_append_right _ (List.mem_append_right _ (List.mem_append_right _ (List.mem_append_right _ (List.mem_append_left _ h)))))))))))))))))))))))))))))))))))))))
theorem wr_wsL_law_r34 : ∀ w ∈ wsL_law_r34, w ∈ wsL_law := fun w h => (List.mem_append_left _ (List.mem_append_left _ (List.mem_append_left _ (List.mem_append_left _ (List.mem_append_left _ (List.mem_append_left _ (List.mem_append_right _ (List.mem_append_right _ (List.mem_append_right _ (List.mem_append_right _ (List.mem_append_right _ (List.mem_append_right _ (List.mem_append_right _ (List.mem_append_right _ (List.mem_append_right _ (List.mem_append_right _ (List.mem_append_right _ (List.mem_append_right _ (List.mem_append_right _ (List.mem_append_right _ (List.mem_append_right _ (List.mem_append_right _ (List.mem_append_right _ (List.mem_append_right _ (List.mem_append_right _ (List.mem_append_right _ (List.mem_append_right _ (List.mem_append_right _ (List.mem_append_right _ (List.mem_append_right _ (List.mem_append_right _ (List.mem_append_right _ (List.mem_append_right _ (List.mem_append_right _ (List.mem_append_right _ (List.mem_append_right _ (List.mem_append_right _ (List.mem_append_right _ (List.mem_append_right _ (List.mem_append_left _ h))))))))))))))))))))))))))))))))))))))))
theorem wr_wsL_law_r35 : ∀ w ∈ wsL_law_r35, w ∈ wsL_law := fun w h => (List.mem_append_left _ (List.mem_append_left _ (List.mem_append_left _ (List.mem_append_left _ (List.mem_append_left _ (List.mem_append_left _ (List.mem_append_right _ (List.mem_append_right _ (List.mem_append_right _ (List.mem_append_right _ (List.mem_append_right _ (List.mem_append_right _ (List.mem_append_right _ (List.mem_append_right _ (List.mem_append_right _ (List.mem_append_right _ (List.mem_append_right _ (List.mem_append_right _ (List.mem_append_right _ (List.mem_append_right _ (List.mem_append_right _ (List.mem_append_right _ (List.mem_append_right _ (List.mem_append_right _ (List.mem_append_right _ (List.mem_append_right _ (List.mem_append_right _ (List.mem_append_right _ (List.mem_append_right _ (List.mem_append_right _ (List.mem_append_right _ (List.mem_append_right _ (List.mem_append_right _ (List.mem_append_right _ (List.mem_append_right _ (List.mem_append_right _ (List.mem_append_right _ (List.mem_append_right _ (List.mem_append_right _ (List.mem_append_right _ (List.mem_append_left _ h)))))))))))))))))))))))))))))))))))))))))
theorem wr_wsL_law_r36 : ∀ w ∈ wsL_law_r36, w ∈ wsL_law := fun w h => (List.mem_append_left _ (List.mem_append_left _ (List.mem_append_left _ (List.mem_append_left _ (List.mem_append_left _ (List.mem_append_left _ (List.mem_append_right _ (List.mem_append_right _ (List.mem_append_right _ (List.mem_append_right _ (List.mem_append_right _ (List.mem_append_right _ (List.mem_append_right _ (List.mem_append_right _ (List.mem_append_right _ (List.mem_append_right _ (List.mem_append_right _ (List.mem_append_right _ (List.mem_append_right _ (List.mem_append_right _ (List.mem_append_right _ (List.mem_append_right _ (List.mem_append_right _ (List.mem_append_right _ (List.mem_append_right _ (List.mem_append_right _ (List.mem_append_right _ (List.mem_append_right _ (List.mem_append_right _ (List.mem_append_right _ (List.mem_append_right _ (List.mem_append_right _ (List.mem_append_right _ (List.mem_append_right _ (List.mem_append_right _ (List.mem_append_right _ (List.mem_append_right _ (List.mem_append_right _ (List.mem_append_right _ (List.mem_append_right _ (List.mem_append_right _ (List.mem_append_left _ h))))))))))))))))))))))))))))))))))))))))))
theorem wr_wsL_law_r37 : ∀ w ∈ wsL_law_r37, w ∈ wsL_law := fun w h => (List.mem_append_left _ (List.mem_append_left _ (List.mem_append_left _ (List.mem_append_left _ (List.mem_append_left _ (List.mem_append_left _ (List.mem_append_right _ (List.mem_append_right _ (List.mem_append_right _ (List.mem_append_right _ (List.mem_append_right _ (List.mem_append_right _ (List.mem_append_right _ (List.mem_append_right _ (List.mem_append_right _ (List.mem_append_right _ (List.mem_append_right _ (List.mem_append_right _ (List.mem_append_right _ (List.mem_append_right _ (List.mem_append_right _ (List.mem_append_right _ (List.mem_append_right _ (List.mem_append_right _ (List.mem_append_right _ (List.mem_append_right _ (List.mem_append_right _ (List.mem_append_right _ (List.mem_append_right _ (List.mem_append_right _ (List.mem_append_right _ (List.mem_append_right _ (List.mem_append_right _ (List.mem_append_right _ (List.mem_append_right _ (List.mem_append_right _ (List.mem_append_right _ (List.mem_append_right _ (List.mem_append_right _ (List.mem_append_right _ (List.mem_append_right _ (List.mem_append_right _ (List.mem_append_left _ h)))))))))))))))))))))))))))))))))))))))))))
theorem wr_wsL_law_r38 : ∀ w ∈ wsL_law_r38, w ∈ wsL_law := fun w h => (List.mem_append_left _ (List.mem_append_left _ (List.mem_append_left _ (List.mem_append_left _ (List.mem_append_left _ (List.mem_append_left _ (List.mem_append_right _ (List.mem_append_right _ (List.mem_append_right _ (List.mem_append_right _ (List.mem_append_right _ (List.mem_append_right _ (List.mem_append_right _ (List.mem_append_right _ (List.mem_append_right _ (List.mem_append_right _ (List.mem_append_right _ (List.mem_append_right _ (List.mem_append_right _ (List.mem_append_right _ (List.mem_append_right _ (List.mem_append_right _ (List.mem_append_right _ (List.mem_append_right _ (List.mem_append_right _ (List.mem_append_right _ (List.mem_append_right _ (List.mem_append_right _ (List.mem_append_right _ (List.mem_append_right _ (List.mem_append_right _ (List.mem_append_right _ (List.mem_append_right _ (List.mem_append_right _ (List.mem_append_right _ (List.mem_append_right _ (List.mem_append_right _ (List.mem_append_right _ (List.mem_append_right _ (List.mem_append_right _ (List.mem_append_right _ (List.mem_append_right _ (List.mem_append_right _ (List.mem_append_left _ h))))))))))))))))))))))))))))))))))))))))))))
theorem wr_wsL_law_r39 : ∀ w ∈ wsL_law_r39, w ∈ wsL_law := fun w h => (List.mem_append_left _ (List.mem_append_left _ (List.mem_append_left _ (List.mem_append_left _ (List.mem_append_left _ (List.mem_append_left _ (List.mem_append_right _ (List.mem_append_right _ (List.mem_append_right _ (List.mem_append_right _ (List.mem_append_right _ (List.mem_append_right _ (List.mem_append_right _ (List.mem_append_right _ (List.mem_append_right _ (List.mem_append_right _ (List.mem_append_right _ (List.mem_append_right _ (List.mem_append_right _ (List.mem_append_right _ (List.mem_append_right _ (List.mem_append_right _ (List.mem_append_right _ (List.mem_append_right _ (List.mem_append_right _ (List.mem_append_right _ (List.mem_append_right _ (List.mem_append_right _ (List.mem_append_right _ (List.mem_append_right _ (List.mem_append_right _ (List.mem_append_right _ (List.mem_append_right _ (List.mem_append_right _ (List.mem_append_right _ (List.mem_append_right _ (List.mem_append_right _ (List.mem_append_right _ (List.mem_append_right _ (List.mem_append_right _ (List.mem_append_right _ (List.mem_append_right _ (List.mem_append_right _ (List.mem_append_right _ (List.mem_append_left _ h)))))))))))))))))))))))))))))))))))))))))))))
theorem wr_wsL_law_r40 : ∀ w ∈ wsL_law_r40, w ∈ wsL_law := fun w h => (List.mem_append_left _ (List.mem_append_left _ (List.mem_append_left _ (List.mem_append_left _ (List.mem_append_left _ (List.mem_append_left _ (List.mem_append_right _ (List.mem_append_right _ (List.mem_append_right _ (List.mem_append_right _ (List.mem_append_right _ (List.mem_append_right _ (List.mem_append_right _ (List.mem_append_right _ (List.mem_append_right _ (List.mem_append_right _ (List.mem_append_right _ (List.mem_append_right _ (List.mem_append_right _ (List.mem_append_right _ (List.mem_append_right _ (List.mem_append_right _ (List.mem_append_right _ (List.mem_append_right _ (List.mem_append_right _ (List.mem_append_right _ (List.mem_append_right _ (List.mem_append_right _ (List.mem_append_right _ (List.mem_append_right _ (List.mem_append_right _ (List.mem_append_right _ (List.mem_append_right _ (List.mem_append_right _ (List.mem_append_right _ (List.mem_append_right _ (List.mem_append_right _ (List.mem_append_right _ (List.mem_append_right _ (List.mem_append_right _ (List.mem_append_right _ (List.mem_append_right _ (List.mem_append_right _ (List.mem_append_right _ (List.mem_append_right _ (List.mem_append_left _ h))))))))))))))))))))))))))))))))))))))))))))))
theorem wr_wsL_law_r41 : ∀ w ∈ wsL_law_r41, w ∈ wsL_law := fun w h => (List.mem_append_left _ (List.mem_append_left _ (List.mem_append_left _ (List.mem_append_left _ (List.mem_append_left _ (List.mem_append_left _ (List.mem_append_right _ (List.mem_append_right _ (List.mem_append_right _ (List.mem_append_right _ (List.mem_append_right _ (List.mem_append_right _ (List.mem_append_right _ (List.mem_append_right _ (List.mem_append_right _ (List.mem_append_right _ (List.mem_append_right _ (List.mem_append_right _ (List.mem_append_right _ (List.mem_append_right _ (List.mem_append_right _ (List.mem_append_right _ (List.mem_append_right _ (List.mem_append_right _ (List.mem_append_right _ (List.mem_append_right _ (List.mem_append_right _ (List.mem_append_right _ (List.mem_append_right _ (List.mem_append_right _ (List.mem_append_right _ (List.mem_append_right _ (List.mem_append_right _ (List.mem_append_right _ (List.mem_append_right _ (List.mem_append_right _ (List.mem_append_right _ (List.mem_append_right _ (List.mem_append_right _ (List.mem_append_right _ (List.mem_append_right _ (List.mem_append_right _ (List.mem_append_right _ (List.mem_append_right _ (List.mem_append_right _ (List.mem_append_right _ h))))))))))))))))))))))))))))))))))))))))))))))
theorem wr_wsX30 : ∀ w ∈ wsX30, w ∈ wsL_law := fun w h => (List.mem_append_left _ (List.mem_append_left _ (List.mem_append_left _ (List.mem_append_left _ (List.mem_append_left _ (List.mem_append_right _ h))))))
theorem wr_wsX40 : ∀ w ∈ wsX40, w ∈ wsL_law := fun w h => (List.mem_append_left _ (List.mem_append_left _ (List.mem_append_left _ (List.mem_append_left _ (List.mem_append_right _ h)))))
theorem wr_wsX10 : ∀ w ∈ wsX10, w ∈ wsL_law := fun w h => (List.mem_append_left _ (List.mem_append_left _ (List.mem_append_left _ (List.mem_append_right _ h))))
theorem wr_wsX00 : ∀ w ∈ wsX00, w ∈ wsL_law := fun w h => (List.mem_append_left _ (List.mem_append_left _ (List.mem_append_right _ h)))
theorem wr_wsX20 : ∀ w ∈ wsX20, w ∈ wsL_law := fun w h => (List.mem_append_left _ (List.mem_append_right _ h))
theorem wl_0 : (Cond.classLink RL 7 RX3) ∈ wsL_law := wr_wsL_law_r1 _ (List.mem_of_getElem? (i := 0) rfl)
theorem wl_1 : (Cond.instantiable RX3 14) ∈ wsL_law := wr_wsL_law_r1 _ (List.mem_of_getElem? (i := 1) rfl)
theorem wl_2 : (Cond.initialized RX3) ∈ wsL_law := wr_wsL_law_r1 _ (List.mem_of_getElem? (i := 2) rfl)
theorem wl_3 : (Cond.classLink RL 10 RX4) ∈ wsL_law := wr_wsL_law_r1 _ (List.mem_of_getElem? (i := 3) rfl)
theorem wl_4 : (Cond.instantiable RX4 34) ∈ wsL_law := wr_wsL_law_r1 _ (List.mem_of_getElem? (i := 4) rfl)
theorem wl_5 : (Cond.initialized RX4) ∈ wsL_law := wr_wsL_law_r1 _ (List.mem_of_getElem? (i := 5) rfl)
theorem wl_6 : (Cond.methodLink RL 9 yX3_init) ∈ wsL_law := wr_wsL_law_r1 _ (List.mem_of_getElem? (i := 6) rfl)
theorem wl_7 : (Cond.instanceMethod yX3_init) ∈ wsL_law := wr_wsL_law_r1 _ (List.mem_of_getElem? (i := 7) rfl)
theorem wl_8 : (Cond.code yX3_init cX3_init 1 none) ∈ wsL_law := wr_wsL_law_r1 _ (List.mem_of_getElem? (i := 8) rfl)
theorem wl_9 : (Cond.methodLink RX3 3 objectInit) ∈ wsL_law := wr_wsL_law_r1 _ (List.mem_of_getElem? (i := 9) rfl)
theorem wl_10 : (Cond.instanceMethod objectInit) ∈ wsL_law := wr_wsL_law_r1 _ (List.mem_of_getElem? (i := 10) rfl)
theorem wl_11 : (Cond.code objectInit ⟨#[0xb1]⟩ 1 none) ∈ wsL_law := wr_wsL_law_r1 _ (List.mem_of_getElem? (i := 11) rfl)
theorem wl_12 : (Cond.classLink RX3 9 RX1) ∈ wsL_law := wr_wsL_law_r1 _ (List.mem_of_getElem? (i := 12) rfl)
theorem wl_13 : (Cond.instantiable RX1 10) ∈ wsL_law := wr_wsL_law_r1 _ (List.mem_of_getElem? (i := 13) rfl)
theorem wl_14 : (Cond.initialized RX1) ∈ wsL_law := wr_wsL_law_r1 _ (List.mem_of_getElem? (i := 14) rfl)
theorem wl_15 : (Cond.fieldLink RX3 12 "StillGood" "now" "LStillGood$Kitchen;") ∈ wsL_law := wr_wsL_law_r1 _ (List.mem_of_getElem? (i := 15) rfl)
theorem wl_16 : (Cond.fieldLink RX3 16 "StillGood" "draft" "LStillGood$Kitchen;") ∈ wsL_law := wr_wsL_law_r1 _ (List.mem_of_getElem? (i := 16) rfl)
theorem wl_17 : (Cond.fieldLink RX3 19 "StillGood" "kept" "LStillGood$Kitchen;") ∈ wsL_law := wr_wsL_law_r1 _ (List.mem_of_getElem? (i := 17) rfl)
theorem wl_18 : (Cond.fieldLink RX3 22 "StillGood" "isKept" "Z") ∈ wsL_law := wr_wsL_law_r1 _ (List.mem_of_getElem? (i := 18) rfl)
theorem wl_19 : (Cond.arrayClass .int) ∈ wsL_law := wr_wsL_law_r1 _ (List.mem_of_getElem? (i := 19) rfl)
theorem wl_20 : (Cond.fieldLink RX3 26 "StillGood" "letters" "[I") ∈ wsL_law := wr_wsL_law_r1 _ (List.mem_of_getElem? (i := 20) rfl)
theorem wl_21 : (Cond.fieldLink RX3 30 "StillGood" "letterCount" "I") ∈ wsL_law := wr_wsL_law_r1 _ (List.mem_of_getElem? (i := 21) rfl)
theorem wl_22 : (Cond.fieldLink RX3 34 "StillGood" "numbers" "[I") ∈ wsL_law := wr_wsL_law_r1 _ (List.mem_of_getElem? (i := 22) rfl)
theorem wl_23 : (Cond.fieldLink RX3 37 "StillGood" "numberCount" "I") ∈ wsL_law := wr_wsL_law_r1 _ (List.mem_of_getElem? (i := 23) rfl)
theorem wl_24 : (Cond.fieldLink RX3 40 "StillGood" "refused" "[I") ∈ wsL_law := wr_wsL_law_r2 _ (List.mem_of_getElem? (i := 0) rfl)
theorem wl_25 : (Cond.classLink RX3 43 RX0) ∈ wsL_law := wr_wsL_law_r2 _ (List.mem_of_getElem? (i := 1) rfl)
theorem wl_26 : (Cond.instantiable RX0 4) ∈ wsL_law := wr_wsL_law_r2 _ (List.mem_of_getElem? (i := 2) rfl)
theorem wl_27 : (Cond.initialized RX0) ∈ wsL_law := wr_wsL_law_r2 _ (List.mem_of_getElem? (i := 3) rfl)
theorem wl_28 : (Cond.fieldLink RX3 46 "StillGood" "taken" "LStillGood$Jug;") ∈ wsL_law := wr_wsL_law_r2 _ (List.mem_of_getElem? (i := 4) rfl)
theorem wl_29 : (Cond.fieldLink RX3 50 "StillGood" "inMind" "LStillGood$Jug;") ∈ wsL_law := wr_wsL_law_r2 _ (List.mem_of_getElem? (i := 5) rfl)
theorem wl_30 : (Cond.classLink RX3 53 RX2) ∈ wsL_law := wr_wsL_law_r2 _ (List.mem_of_getElem? (i := 6) rfl)
theorem wl_31 : (Cond.instantiable RX2 1) ∈ wsL_law := wr_wsL_law_r2 _ (List.mem_of_getElem? (i := 7) rfl)
theorem wl_32 : (Cond.initialized RX2) ∈ wsL_law := wr_wsL_law_r2 _ (List.mem_of_getElem? (i := 8) rfl)
theorem wl_33 : (Cond.fieldLink RX3 56 "StillGood" "thoughts" "LStillGood$Thoughts;") ∈ wsL_law := wr_wsL_law_r2 _ (List.mem_of_getElem? (i := 9) rfl)
theorem wl_34 : (Cond.fieldLink RX3 60 "StillGood" "behind" "LStillGood$Thoughts;") ∈ wsL_law := wr_wsL_law_r2 _ (List.mem_of_getElem? (i := 10) rfl)
theorem wl_35 : (Cond.fieldLink RX3 63 "StillGood" "beyond" "LStillGood$Thoughts;") ∈ wsL_law := wr_wsL_law_r2 _ (List.mem_of_getElem? (i := 11) rfl)
theorem wl_36 : (Cond.instanceMethod yX1_init) ∈ wsL_law := wr_wsL_law_r2 _ (List.mem_of_getElem? (i := 12) rfl)
theorem wl_37 : (Cond.code yX1_init cX1_init 2 none) ∈ wsL_law := wr_wsL_law_r2 _ (List.mem_of_getElem? (i := 13) rfl)
theorem wl_38 : (Cond.methodLink RX1 3 objectInit) ∈ wsL_law := wr_wsL_law_r2 _ (List.mem_of_getElem? (i := 14) rfl)
theorem wl_39 : (Cond.classLink RX1 9 RX0) ∈ wsL_law := wr_wsL_law_r2 _ (List.mem_of_getElem? (i := 15) rfl)
theorem wl_40 : (Cond.fieldLink RX1 11 "StillGood$Kitchen" "jugs" "[LStillGood$Jug;") ∈ wsL_law := wr_wsL_law_r2 _ (List.mem_of_getElem? (i := 16) rfl)
theorem wl_41 : (Cond.fieldLink RX1 18 "StillGood$Kitchen" "jugCount" "I") ∈ wsL_law := wr_wsL_law_r2 _ (List.mem_of_getElem? (i := 17) rfl)
theorem wl_42 : (Cond.fieldLink RX1 22 "StillGood$Kitchen" "hand" "I") ∈ wsL_law := wr_wsL_law_r2 _ (List.mem_of_getElem? (i := 18) rfl)
theorem wl_43 : (Cond.fieldLink RX1 25 "StillGood$Kitchen" "seenTests" "[I") ∈ wsL_law := wr_wsL_law_r2 _ (List.mem_of_getElem? (i := 19) rfl)
theorem wl_44 : (Cond.fieldLink RX1 29 "StillGood$Kitchen" "seenOff" "[I") ∈ wsL_law := wr_wsL_law_r2 _ (List.mem_of_getElem? (i := 20) rfl)
theorem wl_45 : (Cond.fieldLink RX1 32 "StillGood$Kitchen" "seenCount" "I") ∈ wsL_law := wr_wsL_law_r2 _ (List.mem_of_getElem? (i := 21) rfl)
theorem wl_46 : (Cond.fieldLink RX1 35 "StillGood$Kitchen" "costs" "[I") ∈ wsL_law := wr_wsL_law_r2 _ (List.mem_of_getElem? (i := 22) rfl)
theorem wl_47 : (Cond.fieldLink RX1 38 "StillGood$Kitchen" "price" "I") ∈ wsL_law := wr_wsL_law_r2 _ (List.mem_of_getElem? (i := 23) rfl)
theorem wl_48 : (Cond.fieldLink RX1 41 "StillGood$Kitchen" "people" "[I") ∈ wsL_law := wr_wsL_law_r3 _ (List.mem_of_getElem? (i := 0) rfl)
theorem wl_49 : (Cond.fieldLink RX1 44 "StillGood$Kitchen" "peopleCount" "I") ∈ wsL_law := wr_wsL_law_r3 _ (List.mem_of_getElem? (i := 1) rfl)
theorem wl_50 : (Cond.instanceMethod yX0_init) ∈ wsL_law := wr_wsL_law_r3 _ (List.mem_of_getElem? (i := 2) rfl)
theorem wl_51 : (Cond.code yX0_init cX0_init 1 none) ∈ wsL_law := wr_wsL_law_r3 _ (List.mem_of_getElem? (i := 3) rfl)
theorem wl_52 : (Cond.methodLink RX0 3 objectInit) ∈ wsL_law := wr_wsL_law_r3 _ (List.mem_of_getElem? (i := 4) rfl)
theorem wl_53 : (Cond.fieldLink RX0 9 "StillGood$Jug" "kind" "I") ∈ wsL_law := wr_wsL_law_r3 _ (List.mem_of_getElem? (i := 5) rfl)
theorem wl_54 : (Cond.fieldLink RX0 15 "StillGood$Jug" "figure" "I") ∈ wsL_law := wr_wsL_law_r3 _ (List.mem_of_getElem? (i := 6) rfl)
theorem wl_55 : (Cond.fieldLink RX0 18 "StillGood$Jug" "cups" "I") ∈ wsL_law := wr_wsL_law_r3 _ (List.mem_of_getElem? (i := 7) rfl)
theorem wl_56 : (Cond.fieldLink RX0 21 "StillGood$Jug" "points" "I") ∈ wsL_law := wr_wsL_law_r3 _ (List.mem_of_getElem? (i := 8) rfl)
theorem wl_57 : (Cond.instanceMethod yX2_init) ∈ wsL_law := wr_wsL_law_r3 _ (List.mem_of_getElem? (i := 9) rfl)
theorem wl_58 : (Cond.code yX2_init cX2_init 1 none) ∈ wsL_law := wr_wsL_law_r3 _ (List.mem_of_getElem? (i := 10) rfl)
theorem wl_59 : (Cond.methodLink RX2 3 objectInit) ∈ wsL_law := wr_wsL_law_r3 _ (List.mem_of_getElem? (i := 11) rfl)
theorem wl_60 : (Cond.arrayClass .long) ∈ wsL_law := wr_wsL_law_r3 _ (List.mem_of_getElem? (i := 12) rfl)
theorem wl_61 : (Cond.fieldLink RX2 9 "StillGood$Thoughts" "ofStage" "[J") ∈ wsL_law := wr_wsL_law_r3 _ (List.mem_of_getElem? (i := 13) rfl)
theorem wl_62 : (Cond.methodLink RL 12 yX4_init) ∈ wsL_law := wr_wsL_law_r3 _ (List.mem_of_getElem? (i := 14) rfl)
theorem wl_63 : (Cond.instanceMethod yX4_init) ∈ wsL_law := wr_wsL_law_r3 _ (List.mem_of_getElem? (i := 15) rfl)
theorem wl_64 : (Cond.code yX4_init cX4_init 1 none) ∈ wsL_law := wr_wsL_law_r3 _ (List.mem_of_getElem? (i := 16) rfl)
theorem wl_65 : (Cond.methodLink RX4 1 objectInit) ∈ wsL_law := wr_wsL_law_r3 _ (List.mem_of_getElem? (i := 17) rfl)
theorem wl_66 : (Cond.fieldLink RX4 7 "StillGoodModel" "refused" "[I") ∈ wsL_law := wr_wsL_law_r3 _ (List.mem_of_getElem? (i := 18) rfl)
theorem wl_67 : (Cond.fieldLink RX4 13 "StillGoodModel" "kind" "[I") ∈ wsL_law := wr_wsL_law_r3 _ (List.mem_of_getElem? (i := 19) rfl)
theorem wl_68 : (Cond.fieldLink RX4 16 "StillGoodModel" "figure" "[I") ∈ wsL_law := wr_wsL_law_r3 _ (List.mem_of_getElem? (i := 20) rfl)
theorem wl_69 : (Cond.fieldLink RX4 19 "StillGoodModel" "cups" "[I") ∈ wsL_law := wr_wsL_law_r3 _ (List.mem_of_getElem? (i := 21) rfl)
theorem wl_70 : (Cond.fieldLink RX4 22 "StillGoodModel" "points" "[I") ∈ wsL_law := wr_wsL_law_r3 _ (List.mem_of_getElem? (i := 22) rfl)
theorem wl_71 : (Cond.fieldLink RX4 25 "StillGoodModel" "testCost" "[I") ∈ wsL_law := wr_wsL_law_r3 _ (List.mem_of_getElem? (i := 23) rfl)
theorem wl_72 : (Cond.fieldLink RX4 28 "StillGoodModel" "seenTest" "[I") ∈ wsL_law := wr_wsL_law_r4 _ (List.mem_of_getElem? (i := 0) rfl)
theorem wl_73 : (Cond.fieldLink RX4 31 "StillGoodModel" "seenOff" "[I") ∈ wsL_law := wr_wsL_law_r4 _ (List.mem_of_getElem? (i := 1) rfl)
theorem wl_74 : (Cond.fieldLink RX4 34 "StillGoodModel" "personKind" "[I") ∈ wsL_law := wr_wsL_law_r4 _ (List.mem_of_getElem? (i := 2) rfl)
theorem wl_75 : (Cond.fieldLink RX4 37 "StillGoodModel" "tape" "[I") ∈ wsL_law := wr_wsL_law_r4 _ (List.mem_of_getElem? (i := 3) rfl)
theorem wl_76 : (Cond.fieldLink RX4 40 "StillGoodModel" "letter" "[I") ∈ wsL_law := wr_wsL_law_r4 _ (List.mem_of_getElem? (i := 4) rfl)
theorem wl_77 : (Cond.fieldLink RX4 43 "StillGoodModel" "letterAt" "[I") ∈ wsL_law := wr_wsL_law_r4 _ (List.mem_of_getElem? (i := 5) rfl)
theorem wl_78 : (Cond.fieldLink RX4 46 "StillGoodModel" "told" "[I") ∈ wsL_law := wr_wsL_law_r4 _ (List.mem_of_getElem? (i := 6) rfl)
theorem wl_79 : (Cond.fieldLink RX4 49 "StillGoodModel" "kept" "[I") ∈ wsL_law := wr_wsL_law_r4 _ (List.mem_of_getElem? (i := 7) rfl)
theorem wl_80 : (Cond.fieldLink RX4 52 "StillGoodModel" "thought" "[J") ∈ wsL_law := wr_wsL_law_r4 _ (List.mem_of_getElem? (i := 8) rfl)
theorem wl_81 : (Cond.fieldLink RX4 56 "StillGoodModel" "parts" "[J") ∈ wsL_law := wr_wsL_law_r4 _ (List.mem_of_getElem? (i := 9) rfl)
theorem wl_82 : (Cond.fieldLink RX4 59 "StillGoodModel" "partsThen" "[J") ∈ wsL_law := wr_wsL_law_r4 _ (List.mem_of_getElem? (i := 10) rfl)
theorem wl_83 : (Cond.fieldLink RX4 62 "StillGoodModel" "row" "[I") ∈ wsL_law := wr_wsL_law_r4 _ (List.mem_of_getElem? (i := 11) rfl)
theorem wl_84 : (Cond.fieldLink RX4 65 "StillGoodModel" "cupsOf" "[I") ∈ wsL_law := wr_wsL_law_r4 _ (List.mem_of_getElem? (i := 12) rfl)
theorem wl_85 : (Cond.fieldLink RX4 68 "StillGoodModel" "awayPrice" "I") ∈ wsL_law := wr_wsL_law_r4 _ (List.mem_of_getElem? (i := 13) rfl)
theorem wl_86 : (Cond.methodLink RL 13 yX3_feed) ∈ wsL_law := wr_wsL_law_r4 _ (List.mem_of_getElem? (i := 14) rfl)
theorem wl_87 : (Cond.instanceMethod yX3_feed) ∈ wsL_law := wr_wsL_law_r4 _ (List.mem_of_getElem? (i := 15) rfl)
theorem wl_88 : (Cond.selects RX3 yX3_feed yX3_feed) ∈ wsL_law := wr_wsL_law_r4 _ (List.mem_of_getElem? (i := 16) rfl)
theorem wl_89 : (Cond.code yX3_feed cX3_feed 3 (some .int)) ∈ wsL_law := wr_wsL_law_r4 _ (List.mem_of_getElem? (i := 17) rfl)
theorem wl_90 : (Cond.methodLink RX3 66 yX3_refusalOutside) ∈ wsL_law := wr_wsL_law_r4 _ (List.mem_of_getElem? (i := 18) rfl)
theorem wl_91 : (Cond.static yX3_refusalOutside) ∈ wsL_law := wr_wsL_law_r4 _ (List.mem_of_getElem? (i := 19) rfl)
theorem wl_92 : (Cond.code yX3_refusalOutside cX3_refusalOutside 3 (some .int)) ∈ wsL_law := wr_wsL_law_r4 _ (List.mem_of_getElem? (i := 20) rfl)
theorem wl_93 : (Cond.methodLink RX3 70 yX3_isOneOf) ∈ wsL_law := wr_wsL_law_r4 _ (List.mem_of_getElem? (i := 21) rfl)
theorem wl_94 : (Cond.static yX3_isOneOf) ∈ wsL_law := wr_wsL_law_r4 _ (List.mem_of_getElem? (i := 22) rfl)
theorem wl_95 : (Cond.code yX3_isOneOf cX3_isOneOf 2 (some .boolean)) ∈ wsL_law := wr_wsL_law_r4 _ (List.mem_of_getElem? (i := 23) rfl)
theorem wl_96 : (Cond.methodLink RX3 74 yX3_refuse) ∈ wsL_law := wr_wsL_law_r5 _ (List.mem_of_getElem? (i := 0) rfl)
theorem wl_97 : (Cond.instanceMethod yX3_refuse) ∈ wsL_law := wr_wsL_law_r5 _ (List.mem_of_getElem? (i := 1) rfl)
theorem wl_98 : (Cond.selects RX3 yX3_refuse yX3_refuse) ∈ wsL_law := wr_wsL_law_r5 _ (List.mem_of_getElem? (i := 2) rfl)
theorem wl_99 : (Cond.code yX3_refuse cX3_refuse 3 (some .int)) ∈ wsL_law := wr_wsL_law_r5 _ (List.mem_of_getElem? (i := 3) rfl)
theorem wl_100 : (Cond.methodLink RL 17 yX4_feed) ∈ wsL_law := wr_wsL_law_r5 _ (List.mem_of_getElem? (i := 4) rfl)
theorem wl_101 : (Cond.instanceMethod yX4_feed) ∈ wsL_law := wr_wsL_law_r5 _ (List.mem_of_getElem? (i := 5) rfl)
theorem wl_102 : (Cond.selects RX4 yX4_feed yX4_feed) ∈ wsL_law := wr_wsL_law_r5 _ (List.mem_of_getElem? (i := 6) rfl)
theorem wl_103 : (Cond.code yX4_feed cX4_feed 3 (some .int)) ∈ wsL_law := wr_wsL_law_r5 _ (List.mem_of_getElem? (i := 7) rfl)
theorem wl_104 : (Cond.fieldLink RX4 82 "StillGoodModel" "taped" "I") ∈ wsL_law := wr_wsL_law_r5 _ (List.mem_of_getElem? (i := 8) rfl)
theorem wl_105 : (Cond.methodLink RX4 78 yX4_bound) ∈ wsL_law := wr_wsL_law_r5 _ (List.mem_of_getElem? (i := 9) rfl)
theorem wl_106 : (Cond.static yX4_bound) ∈ wsL_law := wr_wsL_law_r5 _ (List.mem_of_getElem? (i := 10) rfl)
theorem wl_107 : (Cond.code yX4_bound cX4_bound 3 (some .int)) ∈ wsL_law := wr_wsL_law_r5 _ (List.mem_of_getElem? (i := 11) rfl)
theorem wl_108 : (Cond.methodLink RX4 85 yX4_no) ∈ wsL_law := wr_wsL_law_r5 _ (List.mem_of_getElem? (i := 12) rfl)
theorem wl_109 : (Cond.instanceMethod yX4_no) ∈ wsL_law := wr_wsL_law_r5 _ (List.mem_of_getElem? (i := 13) rfl)
theorem wl_110 : (Cond.selects RX4 yX4_no yX4_no) ∈ wsL_law := wr_wsL_law_r5 _ (List.mem_of_getElem? (i := 14) rfl)
theorem wl_111 : (Cond.code yX4_no cX4_no 2 (some .int)) ∈ wsL_law := wr_wsL_law_r5 _ (List.mem_of_getElem? (i := 15) rfl)
theorem wl_112 : (Cond.methodLink RL 18 yX3_kitchen) ∈ wsL_law := wr_wsL_law_r5 _ (List.mem_of_getElem? (i := 16) rfl)
theorem wl_113 : (Cond.instanceMethod yX3_kitchen) ∈ wsL_law := wr_wsL_law_r5 _ (List.mem_of_getElem? (i := 17) rfl)
theorem wl_114 : (Cond.selects RX3 yX3_kitchen yX3_kitchen) ∈ wsL_law := wr_wsL_law_r5 _ (List.mem_of_getElem? (i := 18) rfl)
theorem wl_115 : (Cond.code yX3_kitchen cX3_kitchen 5 (some .int)) ∈ wsL_law := wr_wsL_law_r5 _ (List.mem_of_getElem? (i := 19) rfl)
theorem wl_116 : (Cond.methodLink RX3 95 Lib.Math.max.name) ∈ wsL_law := wr_wsL_law_r5 _ (List.mem_of_getElem? (i := 20) rfl)
theorem wl_117 : (Cond.static Lib.Math.max.name) ∈ wsL_law := wr_wsL_law_r5 _ (List.mem_of_getElem? (i := 21) rfl)
theorem wl_118 : (Cond.initialized "java/lang/Math") ∈ wsL_law := wr_wsL_law_r5 _ (List.mem_of_getElem? (i := 22) rfl)
theorem wl_119 : (Cond.code Lib.Math.max.name Lib.Math.max.code 2 (some .int)) ∈ wsL_law := wr_wsL_law_r5 _ (List.mem_of_getElem? (i := 23) rfl)
theorem wl_120 : (Cond.methodLink RX3 78 yX3_firstBadLetter) ∈ wsL_law := wr_wsL_law_r6 _ (List.mem_of_getElem? (i := 0) rfl)
theorem wl_121 : (Cond.instanceMethod yX3_firstBadLetter) ∈ wsL_law := wr_wsL_law_r6 _ (List.mem_of_getElem? (i := 1) rfl)
theorem wl_122 : (Cond.selects RX3 yX3_firstBadLetter yX3_firstBadLetter) ∈ wsL_law := wr_wsL_law_r6 _ (List.mem_of_getElem? (i := 2) rfl)
theorem wl_123 : (Cond.code yX3_firstBadLetter cX3_firstBadLetter 5 (some .int)) ∈ wsL_law := wr_wsL_law_r6 _ (List.mem_of_getElem? (i := 3) rfl)
theorem wl_124 : (Cond.methodLink RX3 89 yX3_letterAt) ∈ wsL_law := wr_wsL_law_r6 _ (List.mem_of_getElem? (i := 4) rfl)
theorem wl_125 : (Cond.instanceMethod yX3_letterAt) ∈ wsL_law := wr_wsL_law_r6 _ (List.mem_of_getElem? (i := 5) rfl)
theorem wl_126 : (Cond.selects RX3 yX3_letterAt yX3_letterAt) ∈ wsL_law := wr_wsL_law_r6 _ (List.mem_of_getElem? (i := 6) rfl)
theorem wl_127 : (Cond.code yX3_letterAt cX3_letterAt 2 (some .int)) ∈ wsL_law := wr_wsL_law_r6 _ (List.mem_of_getElem? (i := 7) rfl)
theorem wl_128 : (Cond.methodLink RX3 136 yX3_at) ∈ wsL_law := wr_wsL_law_r6 _ (List.mem_of_getElem? (i := 8) rfl)
theorem wl_129 : (Cond.static yX3_at) ∈ wsL_law := wr_wsL_law_r6 _ (List.mem_of_getElem? (i := 9) rfl)
theorem wl_130 : (Cond.code yX3_at cX3_at 2 (some .int)) ∈ wsL_law := wr_wsL_law_r6 _ (List.mem_of_getElem? (i := 10) rfl)
theorem wl_131 : (Cond.methodLink RX3 92 yX3_digitsOf) ∈ wsL_law := wr_wsL_law_r6 _ (List.mem_of_getElem? (i := 11) rfl)
theorem wl_132 : (Cond.static yX3_digitsOf) ∈ wsL_law := wr_wsL_law_r6 _ (List.mem_of_getElem? (i := 12) rfl)
theorem wl_133 : (Cond.code yX3_digitsOf cX3_digitsOf 1 (some .int)) ∈ wsL_law := wr_wsL_law_r6 _ (List.mem_of_getElem? (i := 13) rfl)
theorem wl_134 : (Cond.methodLink RX3 101 yX3_isDigit) ∈ wsL_law := wr_wsL_law_r6 _ (List.mem_of_getElem? (i := 14) rfl)
theorem wl_135 : (Cond.static yX3_isDigit) ∈ wsL_law := wr_wsL_law_r6 _ (List.mem_of_getElem? (i := 15) rfl)
theorem wl_136 : (Cond.code yX3_isDigit cX3_isDigit 1 (some .boolean)) ∈ wsL_law := wr_wsL_law_r6 _ (List.mem_of_getElem? (i := 16) rfl)
theorem wl_137 : (Cond.instanceMethod yX1_copyFrom) ∈ wsL_law := wr_wsL_law_r6 _ (List.mem_of_getElem? (i := 17) rfl)
theorem wl_138 : (Cond.selects RX1 yX1_copyFrom yX1_copyFrom) ∈ wsL_law := wr_wsL_law_r6 _ (List.mem_of_getElem? (i := 18) rfl)
theorem wl_139 : (Cond.code yX1_copyFrom cX1_copyFrom 5 none) ∈ wsL_law := wr_wsL_law_r6 _ (List.mem_of_getElem? (i := 19) rfl)
theorem wl_140 : (Cond.methodLink RX1 47 yX1_jugAt) ∈ wsL_law := wr_wsL_law_r6 _ (List.mem_of_getElem? (i := 20) rfl)
theorem wl_141 : (Cond.instanceMethod yX1_jugAt) ∈ wsL_law := wr_wsL_law_r6 _ (List.mem_of_getElem? (i := 21) rfl)
theorem wl_142 : (Cond.selects RX1 yX1_jugAt yX1_jugAt) ∈ wsL_law := wr_wsL_law_r6 _ (List.mem_of_getElem? (i := 22) rfl)
theorem wl_143 : (Cond.code yX1_jugAt cX1_jugAt 2 (some (.object "StillGood$Jug"))) ∈ wsL_law := wr_wsL_law_r6 _ (List.mem_of_getElem? (i := 23) rfl)
theorem wl_144 : (Cond.instanceMethod yX0_fillFrom) ∈ wsL_law := wr_wsL_law_r7 _ (List.mem_of_getElem? (i := 0) rfl)
theorem wl_145 : (Cond.selects RX0 yX0_fillFrom yX0_fillFrom) ∈ wsL_law := wr_wsL_law_r7 _ (List.mem_of_getElem? (i := 1) rfl)
theorem wl_146 : (Cond.code yX0_fillFrom cX0_fillFrom 2 none) ∈ wsL_law := wr_wsL_law_r7 _ (List.mem_of_getElem? (i := 2) rfl)
theorem wl_147 : (Cond.methodLink RX0 24 yX0_fill) ∈ wsL_law := wr_wsL_law_r7 _ (List.mem_of_getElem? (i := 3) rfl)
theorem wl_148 : (Cond.instanceMethod yX0_fill) ∈ wsL_law := wr_wsL_law_r7 _ (List.mem_of_getElem? (i := 4) rfl)
theorem wl_149 : (Cond.selects RX0 yX0_fill yX0_fill) ∈ wsL_law := wr_wsL_law_r7 _ (List.mem_of_getElem? (i := 5) rfl)
theorem wl_150 : (Cond.code yX0_fill cX0_fill 5 none) ∈ wsL_law := wr_wsL_law_r7 _ (List.mem_of_getElem? (i := 6) rfl)
theorem wl_151 : (Cond.methodLink RX1 55 yX1_copyRow) ∈ wsL_law := wr_wsL_law_r7 _ (List.mem_of_getElem? (i := 7) rfl)
theorem wl_152 : (Cond.static yX1_copyRow) ∈ wsL_law := wr_wsL_law_r7 _ (List.mem_of_getElem? (i := 8) rfl)
theorem wl_153 : (Cond.code yX1_copyRow cX1_copyRow 3 none) ∈ wsL_law := wr_wsL_law_r7 _ (List.mem_of_getElem? (i := 9) rfl)
theorem wl_154 : (Cond.methodLink RX3 85 yX3_statementComes) ∈ wsL_law := wr_wsL_law_r7 _ (List.mem_of_getElem? (i := 10) rfl)
theorem wl_155 : (Cond.instanceMethod yX3_statementComes) ∈ wsL_law := wr_wsL_law_r7 _ (List.mem_of_getElem? (i := 11) rfl)
theorem wl_156 : (Cond.selects RX3 yX3_statementComes yX3_statementComes) ∈ wsL_law := wr_wsL_law_r7 _ (List.mem_of_getElem? (i := 12) rfl)
theorem wl_157 : (Cond.code yX3_statementComes cX3_statementComes 4 (some .boolean)) ∈ wsL_law := wr_wsL_law_r7 _ (List.mem_of_getElem? (i := 13) rfl)
theorem wl_158 : (Cond.methodLink RX3 104 yX3_digitAt) ∈ wsL_law := wr_wsL_law_r7 _ (List.mem_of_getElem? (i := 14) rfl)
theorem wl_159 : (Cond.instanceMethod yX3_digitAt) ∈ wsL_law := wr_wsL_law_r7 _ (List.mem_of_getElem? (i := 15) rfl)
theorem wl_160 : (Cond.selects RX3 yX3_digitAt yX3_digitAt) ∈ wsL_law := wr_wsL_law_r7 _ (List.mem_of_getElem? (i := 16) rfl)
theorem wl_161 : (Cond.code yX3_digitAt cX3_digitAt 2 (some .int)) ∈ wsL_law := wr_wsL_law_r7 _ (List.mem_of_getElem? (i := 17) rfl)
theorem wl_162 : (Cond.methodLink RX3 107 yX3_twoDigitsAt) ∈ wsL_law := wr_wsL_law_r7 _ (List.mem_of_getElem? (i := 18) rfl)
theorem wl_163 : (Cond.instanceMethod yX3_twoDigitsAt) ∈ wsL_law := wr_wsL_law_r7 _ (List.mem_of_getElem? (i := 19) rfl)
theorem wl_164 : (Cond.selects RX3 yX3_twoDigitsAt yX3_twoDigitsAt) ∈ wsL_law := wr_wsL_law_r7 _ (List.mem_of_getElem? (i := 20) rfl)
theorem wl_165 : (Cond.code yX3_twoDigitsAt cX3_twoDigitsAt 2 (some .int)) ∈ wsL_law := wr_wsL_law_r7 _ (List.mem_of_getElem? (i := 21) rfl)
theorem wl_166 : (Cond.instanceMethod yX1_addJug) ∈ wsL_law := wr_wsL_law_r7 _ (List.mem_of_getElem? (i := 22) rfl)
theorem wl_167 : (Cond.selects RX1 yX1_addJug yX1_addJug) ∈ wsL_law := wr_wsL_law_r7 _ (List.mem_of_getElem? (i := 23) rfl)
theorem wl_168 : (Cond.code yX1_addJug cX1_addJug 6 (some .boolean)) ∈ wsL_law := wr_wsL_law_r8 _ (List.mem_of_getElem? (i := 0) rfl)
theorem wl_169 : (Cond.instanceMethod yX1_standInCold) ∈ wsL_law := wr_wsL_law_r8 _ (List.mem_of_getElem? (i := 1) rfl)
theorem wl_170 : (Cond.selects RX1 yX1_standInCold yX1_standInCold) ∈ wsL_law := wr_wsL_law_r8 _ (List.mem_of_getElem? (i := 2) rfl)
theorem wl_171 : (Cond.code yX1_standInCold cX1_standInCold 4 none) ∈ wsL_law := wr_wsL_law_r8 _ (List.mem_of_getElem? (i := 3) rfl)
theorem wl_172 : (Cond.instanceMethod yX0_coldPoints) ∈ wsL_law := wr_wsL_law_r8 _ (List.mem_of_getElem? (i := 4) rfl)
theorem wl_173 : (Cond.selects RX0 yX0_coldPoints yX0_coldPoints) ∈ wsL_law := wr_wsL_law_r8 _ (List.mem_of_getElem? (i := 5) rfl)
theorem wl_174 : (Cond.code yX0_coldPoints cX0_coldPoints 1 (some .int)) ∈ wsL_law := wr_wsL_law_r8 _ (List.mem_of_getElem? (i := 6) rfl)
theorem wl_175 : (Cond.instanceMethod yX0_gain) ∈ wsL_law := wr_wsL_law_r8 _ (List.mem_of_getElem? (i := 7) rfl)
theorem wl_176 : (Cond.selects RX0 yX0_gain yX0_gain) ∈ wsL_law := wr_wsL_law_r8 _ (List.mem_of_getElem? (i := 8) rfl)
theorem wl_177 : (Cond.code yX0_gain cX0_gain 2 none) ∈ wsL_law := wr_wsL_law_r8 _ (List.mem_of_getElem? (i := 9) rfl)
theorem wl_178 : (Cond.methodLink RX0 28 Lib.Math.min.name) ∈ wsL_law := wr_wsL_law_r8 _ (List.mem_of_getElem? (i := 10) rfl)
theorem wl_179 : (Cond.static Lib.Math.min.name) ∈ wsL_law := wr_wsL_law_r8 _ (List.mem_of_getElem? (i := 11) rfl)
theorem wl_180 : (Cond.code Lib.Math.min.name Lib.Math.min.code 2 (some .int)) ∈ wsL_law := wr_wsL_law_r8 _ (List.mem_of_getElem? (i := 12) rfl)
theorem wl_181 : (Cond.instanceMethod yX1_standInWarm) ∈ wsL_law := wr_wsL_law_r8 _ (List.mem_of_getElem? (i := 13) rfl)
theorem wl_182 : (Cond.selects RX1 yX1_standInWarm yX1_standInWarm) ∈ wsL_law := wr_wsL_law_r8 _ (List.mem_of_getElem? (i := 14) rfl)
theorem wl_183 : (Cond.code yX1_standInWarm cX1_standInWarm 4 (some .boolean)) ∈ wsL_law := wr_wsL_law_r8 _ (List.mem_of_getElem? (i := 15) rfl)
theorem wl_184 : (Cond.instanceMethod yX0_warmPoints) ∈ wsL_law := wr_wsL_law_r8 _ (List.mem_of_getElem? (i := 16) rfl)
theorem wl_185 : (Cond.selects RX0 yX0_warmPoints yX0_warmPoints) ∈ wsL_law := wr_wsL_law_r8 _ (List.mem_of_getElem? (i := 17) rfl)
theorem wl_186 : (Cond.code yX0_warmPoints cX0_warmPoints 1 (some .int)) ∈ wsL_law := wr_wsL_law_r8 _ (List.mem_of_getElem? (i := 18) rfl)
theorem wl_187 : (Cond.instanceMethod yX1_setCost) ∈ wsL_law := wr_wsL_law_r8 _ (List.mem_of_getElem? (i := 19) rfl)
theorem wl_188 : (Cond.selects RX1 yX1_setCost yX1_setCost) ∈ wsL_law := wr_wsL_law_r8 _ (List.mem_of_getElem? (i := 20) rfl)
theorem wl_189 : (Cond.code yX1_setCost cX1_setCost 3 (some .boolean)) ∈ wsL_law := wr_wsL_law_r8 _ (List.mem_of_getElem? (i := 21) rfl)
theorem wl_190 : (Cond.instanceMethod yX1_takeInHand) ∈ wsL_law := wr_wsL_law_r8 _ (List.mem_of_getElem? (i := 22) rfl)
theorem wl_191 : (Cond.selects RX1 yX1_takeInHand yX1_takeInHand) ∈ wsL_law := wr_wsL_law_r8 _ (List.mem_of_getElem? (i := 23) rfl)
theorem wl_192 : (Cond.code yX1_takeInHand cX1_takeInHand 2 (some .boolean)) ∈ wsL_law := wr_wsL_law_r9 _ (List.mem_of_getElem? (i := 0) rfl)
theorem wl_193 : (Cond.instanceMethod yX1_addSeen) ∈ wsL_law := wr_wsL_law_r9 _ (List.mem_of_getElem? (i := 1) rfl)
theorem wl_194 : (Cond.selects RX1 yX1_addSeen yX1_addSeen) ∈ wsL_law := wr_wsL_law_r9 _ (List.mem_of_getElem? (i := 2) rfl)
theorem wl_195 : (Cond.code yX1_addSeen cX1_addSeen 3 (some .boolean)) ∈ wsL_law := wr_wsL_law_r9 _ (List.mem_of_getElem? (i := 3) rfl)
theorem wl_196 : (Cond.methodLink RX1 78 yX1_inHand) ∈ wsL_law := wr_wsL_law_r9 _ (List.mem_of_getElem? (i := 4) rfl)
theorem wl_197 : (Cond.instanceMethod yX1_inHand) ∈ wsL_law := wr_wsL_law_r9 _ (List.mem_of_getElem? (i := 5) rfl)
theorem wl_198 : (Cond.selects RX1 yX1_inHand yX1_inHand) ∈ wsL_law := wr_wsL_law_r9 _ (List.mem_of_getElem? (i := 6) rfl)
theorem wl_199 : (Cond.code yX1_inHand cX1_inHand 1 (some (.object "StillGood$Jug"))) ∈ wsL_law := wr_wsL_law_r9 _ (List.mem_of_getElem? (i := 7) rfl)
theorem wl_200 : (Cond.instanceMethod yX1_takeCups) ∈ wsL_law := wr_wsL_law_r9 _ (List.mem_of_getElem? (i := 8) rfl)
theorem wl_201 : (Cond.selects RX1 yX1_takeCups yX1_takeCups) ∈ wsL_law := wr_wsL_law_r9 _ (List.mem_of_getElem? (i := 9) rfl)
theorem wl_202 : (Cond.code yX1_takeCups cX1_takeCups 3 (some .boolean)) ∈ wsL_law := wr_wsL_law_r9 _ (List.mem_of_getElem? (i := 10) rfl)
theorem wl_203 : (Cond.methodLink RX1 85 yX1_dropInHand) ∈ wsL_law := wr_wsL_law_r9 _ (List.mem_of_getElem? (i := 11) rfl)
theorem wl_204 : (Cond.instanceMethod yX1_dropInHand) ∈ wsL_law := wr_wsL_law_r9 _ (List.mem_of_getElem? (i := 12) rfl)
theorem wl_205 : (Cond.selects RX1 yX1_dropInHand yX1_dropInHand) ∈ wsL_law := wr_wsL_law_r9 _ (List.mem_of_getElem? (i := 13) rfl)
theorem wl_206 : (Cond.code yX1_dropInHand cX1_dropInHand 3 none) ∈ wsL_law := wr_wsL_law_r9 _ (List.mem_of_getElem? (i := 14) rfl)
theorem wl_207 : (Cond.methodLink RX1 88 Lib.Math.max.name) ∈ wsL_law := wr_wsL_law_r9 _ (List.mem_of_getElem? (i := 15) rfl)
theorem wl_208 : (Cond.methodLink RL 22 yX4_kitchen) ∈ wsL_law := wr_wsL_law_r9 _ (List.mem_of_getElem? (i := 16) rfl)
theorem wl_209 : (Cond.instanceMethod yX4_kitchen) ∈ wsL_law := wr_wsL_law_r9 _ (List.mem_of_getElem? (i := 17) rfl)
theorem wl_210 : (Cond.selects RX4 yX4_kitchen yX4_kitchen) ∈ wsL_law := wr_wsL_law_r9 _ (List.mem_of_getElem? (i := 18) rfl)
theorem wl_211 : (Cond.code yX4_kitchen cX4_kitchen 3 (some .int)) ∈ wsL_law := wr_wsL_law_r9 _ (List.mem_of_getElem? (i := 19) rfl)
theorem wl_212 : (Cond.fieldLink RX4 89 "StillGoodModel" "at" "I") ∈ wsL_law := wr_wsL_law_r9 _ (List.mem_of_getElem? (i := 20) rfl)
theorem wl_213 : (Cond.fieldLink RX4 104 "StillGoodModel" "statements" "I") ∈ wsL_law := wr_wsL_law_r9 _ (List.mem_of_getElem? (i := 21) rfl)
theorem wl_214 : (Cond.methodLink RX4 146 yX4_statement) ∈ wsL_law := wr_wsL_law_r9 _ (List.mem_of_getElem? (i := 22) rfl)
theorem wl_215 : (Cond.instanceMethod yX4_statement) ∈ wsL_law := wr_wsL_law_r9 _ (List.mem_of_getElem? (i := 23) rfl)
theorem wl_216 : (Cond.selects RX4 yX4_statement yX4_statement) ∈ wsL_law := wr_wsL_law_r10 _ (List.mem_of_getElem? (i := 0) rfl)
theorem wl_217 : (Cond.code yX4_statement cX4_statement 2 (some .boolean)) ∈ wsL_law := wr_wsL_law_r10 _ (List.mem_of_getElem? (i := 1) rfl)
theorem wl_218 : (Cond.methodLink RX4 92 yX4_next) ∈ wsL_law := wr_wsL_law_r10 _ (List.mem_of_getElem? (i := 2) rfl)
theorem wl_219 : (Cond.instanceMethod yX4_next) ∈ wsL_law := wr_wsL_law_r10 _ (List.mem_of_getElem? (i := 3) rfl)
theorem wl_220 : (Cond.selects RX4 yX4_next yX4_next) ∈ wsL_law := wr_wsL_law_r10 _ (List.mem_of_getElem? (i := 4) rfl)
theorem wl_221 : (Cond.code yX4_next cX4_next 1 (some .int)) ∈ wsL_law := wr_wsL_law_r10 _ (List.mem_of_getElem? (i := 5) rfl)
theorem wl_222 : (Cond.methodLink RX4 107 yX4_readsAll) ∈ wsL_law := wr_wsL_law_r10 _ (List.mem_of_getElem? (i := 6) rfl)
theorem wl_223 : (Cond.instanceMethod yX4_readsAll) ∈ wsL_law := wr_wsL_law_r10 _ (List.mem_of_getElem? (i := 7) rfl)
theorem wl_224 : (Cond.selects RX4 yX4_readsAll yX4_readsAll) ∈ wsL_law := wr_wsL_law_r10 _ (List.mem_of_getElem? (i := 8) rfl)
theorem wl_225 : (Cond.code yX4_readsAll cX4_readsAll 3 (some .boolean)) ∈ wsL_law := wr_wsL_law_r10 _ (List.mem_of_getElem? (i := 9) rfl)
theorem wl_226 : (Cond.methodLink RX4 100 yX4_readsDigits) ∈ wsL_law := wr_wsL_law_r10 _ (List.mem_of_getElem? (i := 10) rfl)
theorem wl_227 : (Cond.instanceMethod yX4_readsDigits) ∈ wsL_law := wr_wsL_law_r10 _ (List.mem_of_getElem? (i := 11) rfl)
theorem wl_228 : (Cond.selects RX4 yX4_readsDigits yX4_readsDigits) ∈ wsL_law := wr_wsL_law_r10 _ (List.mem_of_getElem? (i := 12) rfl)
theorem wl_229 : (Cond.code yX4_readsDigits cX4_readsDigits 5 (some .boolean)) ∈ wsL_law := wr_wsL_law_r10 _ (List.mem_of_getElem? (i := 13) rfl)
theorem wl_230 : (Cond.methodLink RX4 96 yX4_isIn) ∈ wsL_law := wr_wsL_law_r10 _ (List.mem_of_getElem? (i := 14) rfl)
theorem wl_231 : (Cond.static yX4_isIn) ∈ wsL_law := wr_wsL_law_r10 _ (List.mem_of_getElem? (i := 15) rfl)
theorem wl_232 : (Cond.code yX4_isIn cX4_isIn 3 (some .boolean)) ∈ wsL_law := wr_wsL_law_r10 _ (List.mem_of_getElem? (i := 16) rfl)
theorem wl_233 : (Cond.methodLink RX4 150 yX4_passesAll) ∈ wsL_law := wr_wsL_law_r10 _ (List.mem_of_getElem? (i := 17) rfl)
theorem wl_234 : (Cond.instanceMethod yX4_passesAll) ∈ wsL_law := wr_wsL_law_r10 _ (List.mem_of_getElem? (i := 18) rfl)
theorem wl_235 : (Cond.selects RX4 yX4_passesAll yX4_passesAll) ∈ wsL_law := wr_wsL_law_r10 _ (List.mem_of_getElem? (i := 19) rfl)
theorem wl_236 : (Cond.code yX4_passesAll cX4_passesAll 3 none) ∈ wsL_law := wr_wsL_law_r10 _ (List.mem_of_getElem? (i := 20) rfl)
theorem wl_237 : (Cond.fieldLink RX4 161 "StillGoodModel" "cursor" "I") ∈ wsL_law := wr_wsL_law_r10 _ (List.mem_of_getElem? (i := 21) rfl)
theorem wl_238 : (Cond.fieldLink RX4 157 "StillGoodModel" "isKeeping" "Z") ∈ wsL_law := wr_wsL_law_r10 _ (List.mem_of_getElem? (i := 22) rfl)
theorem wl_239 : (Cond.fieldLink RX4 75 "StillGoodModel" "jugs" "I") ∈ wsL_law := wr_wsL_law_r10 _ (List.mem_of_getElem? (i := 23) rfl)
theorem wl_240 : (Cond.fieldLink RX4 117 "StillGoodModel" "inHand" "I") ∈ wsL_law := wr_wsL_law_r11 _ (List.mem_of_getElem? (i := 0) rfl)
theorem wl_241 : (Cond.fieldLink RX4 110 "StillGoodModel" "seen" "I") ∈ wsL_law := wr_wsL_law_r11 _ (List.mem_of_getElem? (i := 1) rfl)
theorem wl_242 : (Cond.fieldLink RX4 171 "StillGoodModel" "people" "I") ∈ wsL_law := wr_wsL_law_r11 _ (List.mem_of_getElem? (i := 2) rfl)
theorem wl_243 : (Cond.methodLink RX4 164 yX4_passes) ∈ wsL_law := wr_wsL_law_r11 _ (List.mem_of_getElem? (i := 3) rfl)
theorem wl_244 : (Cond.instanceMethod yX4_passes) ∈ wsL_law := wr_wsL_law_r11 _ (List.mem_of_getElem? (i := 4) rfl)
theorem wl_245 : (Cond.selects RX4 yX4_passes yX4_passes) ∈ wsL_law := wr_wsL_law_r11 _ (List.mem_of_getElem? (i := 5) rfl)
theorem wl_246 : (Cond.code yX4_passes cX4_passes 3 none) ∈ wsL_law := wr_wsL_law_r11 _ (List.mem_of_getElem? (i := 6) rfl)
theorem wl_247 : (Cond.methodLink RX4 168 yX4_passOne) ∈ wsL_law := wr_wsL_law_r11 _ (List.mem_of_getElem? (i := 7) rfl)
theorem wl_248 : (Cond.instanceMethod yX4_passOne) ∈ wsL_law := wr_wsL_law_r11 _ (List.mem_of_getElem? (i := 8) rfl)
theorem wl_249 : (Cond.selects RX4 yX4_passOne yX4_passOne) ∈ wsL_law := wr_wsL_law_r11 _ (List.mem_of_getElem? (i := 9) rfl)
theorem wl_250 : (Cond.code yX4_passOne cX4_passOne 3 (some .int)) ∈ wsL_law := wr_wsL_law_r11 _ (List.mem_of_getElem? (i := 10) rfl)
theorem wl_251 : (Cond.methodLink RX4 154 yX4_comes) ∈ wsL_law := wr_wsL_law_r11 _ (List.mem_of_getElem? (i := 11) rfl)
theorem wl_252 : (Cond.instanceMethod yX4_comes) ∈ wsL_law := wr_wsL_law_r11 _ (List.mem_of_getElem? (i := 12) rfl)
theorem wl_253 : (Cond.selects RX4 yX4_comes yX4_comes) ∈ wsL_law := wr_wsL_law_r11 _ (List.mem_of_getElem? (i := 13) rfl)
theorem wl_254 : (Cond.code yX4_comes cX4_comes 5 (some .boolean)) ∈ wsL_law := wr_wsL_law_r11 _ (List.mem_of_getElem? (i := 14) rfl)
theorem wl_255 : (Cond.methodLink RX4 123 yX4_comesJug) ∈ wsL_law := wr_wsL_law_r11 _ (List.mem_of_getElem? (i := 15) rfl)
theorem wl_256 : (Cond.instanceMethod yX4_comesJug) ∈ wsL_law := wr_wsL_law_r11 _ (List.mem_of_getElem? (i := 16) rfl)
theorem wl_257 : (Cond.selects RX4 yX4_comesJug yX4_comesJug) ∈ wsL_law := wr_wsL_law_r11 _ (List.mem_of_getElem? (i := 17) rfl)
theorem wl_258 : (Cond.code yX4_comesJug cX4_comesJug 2 (some .boolean)) ∈ wsL_law := wr_wsL_law_r11 _ (List.mem_of_getElem? (i := 18) rfl)
theorem wl_259 : (Cond.methodLink RX4 127 yX4_allStand) ∈ wsL_law := wr_wsL_law_r11 _ (List.mem_of_getElem? (i := 19) rfl)
theorem wl_260 : (Cond.instanceMethod yX4_allStand) ∈ wsL_law := wr_wsL_law_r11 _ (List.mem_of_getElem? (i := 20) rfl)
theorem wl_261 : (Cond.selects RX4 yX4_allStand yX4_allStand) ∈ wsL_law := wr_wsL_law_r11 _ (List.mem_of_getElem? (i := 21) rfl)
theorem wl_262 : (Cond.code yX4_allStand cX4_allStand 3 none) ∈ wsL_law := wr_wsL_law_r11 _ (List.mem_of_getElem? (i := 22) rfl)
theorem wl_263 : (Cond.methodLink RX4 180 yX4_coldOf) ∈ wsL_law := wr_wsL_law_r11 _ (List.mem_of_getElem? (i := 23) rfl)
theorem wl_264 : (Cond.static yX4_coldOf) ∈ wsL_law := wr_wsL_law_r12 _ (List.mem_of_getElem? (i := 0) rfl)
theorem wl_265 : (Cond.code yX4_coldOf cX4_coldOf 1 (some .int)) ∈ wsL_law := wr_wsL_law_r12 _ (List.mem_of_getElem? (i := 1) rfl)
theorem wl_266 : (Cond.methodLink RX4 137 yX4_gains) ∈ wsL_law := wr_wsL_law_r12 _ (List.mem_of_getElem? (i := 2) rfl)
theorem wl_267 : (Cond.instanceMethod yX4_gains) ∈ wsL_law := wr_wsL_law_r12 _ (List.mem_of_getElem? (i := 3) rfl)
theorem wl_268 : (Cond.selects RX4 yX4_gains yX4_gains) ∈ wsL_law := wr_wsL_law_r12 _ (List.mem_of_getElem? (i := 4) rfl)
theorem wl_269 : (Cond.code yX4_gains cX4_gains 3 none) ∈ wsL_law := wr_wsL_law_r12 _ (List.mem_of_getElem? (i := 5) rfl)
theorem wl_270 : (Cond.methodLink RX4 177 yX4_heldPoints) ∈ wsL_law := wr_wsL_law_r12 _ (List.mem_of_getElem? (i := 6) rfl)
theorem wl_271 : (Cond.static yX4_heldPoints) ∈ wsL_law := wr_wsL_law_r12 _ (List.mem_of_getElem? (i := 7) rfl)
theorem wl_272 : (Cond.code yX4_heldPoints cX4_heldPoints 1 (some .int)) ∈ wsL_law := wr_wsL_law_r12 _ (List.mem_of_getElem? (i := 8) rfl)
theorem wl_273 : (Cond.methodLink RX4 131 yX4_isJug) ∈ wsL_law := wr_wsL_law_r12 _ (List.mem_of_getElem? (i := 9) rfl)
theorem wl_274 : (Cond.instanceMethod yX4_isJug) ∈ wsL_law := wr_wsL_law_r12 _ (List.mem_of_getElem? (i := 10) rfl)
theorem wl_275 : (Cond.selects RX4 yX4_isJug yX4_isJug) ∈ wsL_law := wr_wsL_law_r12 _ (List.mem_of_getElem? (i := 11) rfl)
theorem wl_276 : (Cond.code yX4_isJug cX4_isJug 2 (some .boolean)) ∈ wsL_law := wr_wsL_law_r12 _ (List.mem_of_getElem? (i := 12) rfl)
theorem wl_277 : (Cond.methodLink RX4 134 yX4_warmOf) ∈ wsL_law := wr_wsL_law_r12 _ (List.mem_of_getElem? (i := 13) rfl)
theorem wl_278 : (Cond.instanceMethod yX4_warmOf) ∈ wsL_law := wr_wsL_law_r12 _ (List.mem_of_getElem? (i := 14) rfl)
theorem wl_279 : (Cond.selects RX4 yX4_warmOf yX4_warmOf) ∈ wsL_law := wr_wsL_law_r12 _ (List.mem_of_getElem? (i := 15) rfl)
theorem wl_280 : (Cond.code yX4_warmOf cX4_warmOf 2 (some .int)) ∈ wsL_law := wr_wsL_law_r12 _ (List.mem_of_getElem? (i := 16) rfl)
theorem wl_281 : (Cond.methodLink RX4 140 yX4_comesSeen) ∈ wsL_law := wr_wsL_law_r12 _ (List.mem_of_getElem? (i := 17) rfl)
theorem wl_282 : (Cond.instanceMethod yX4_comesSeen) ∈ wsL_law := wr_wsL_law_r12 _ (List.mem_of_getElem? (i := 18) rfl)
theorem wl_283 : (Cond.selects RX4 yX4_comesSeen yX4_comesSeen) ∈ wsL_law := wr_wsL_law_r12 _ (List.mem_of_getElem? (i := 19) rfl)
theorem wl_284 : (Cond.code yX4_comesSeen cX4_comesSeen 3 (some .boolean)) ∈ wsL_law := wr_wsL_law_r12 _ (List.mem_of_getElem? (i := 20) rfl)
theorem wl_285 : (Cond.methodLink RX4 113 yX4_sees) ∈ wsL_law := wr_wsL_law_r12 _ (List.mem_of_getElem? (i := 21) rfl)
theorem wl_286 : (Cond.instanceMethod yX4_sees) ∈ wsL_law := wr_wsL_law_r12 _ (List.mem_of_getElem? (i := 22) rfl)
theorem wl_287 : (Cond.selects RX4 yX4_sees yX4_sees) ∈ wsL_law := wr_wsL_law_r12 _ (List.mem_of_getElem? (i := 23) rfl)
theorem wl_288 : (Cond.code yX4_sees cX4_sees 3 none) ∈ wsL_law := wr_wsL_law_r13 _ (List.mem_of_getElem? (i := 0) rfl)
theorem wl_289 : (Cond.methodLink RX4 143 yX4_comesUse) ∈ wsL_law := wr_wsL_law_r13 _ (List.mem_of_getElem? (i := 1) rfl)
theorem wl_290 : (Cond.instanceMethod yX4_comesUse) ∈ wsL_law := wr_wsL_law_r13 _ (List.mem_of_getElem? (i := 2) rfl)
theorem wl_291 : (Cond.selects RX4 yX4_comesUse yX4_comesUse) ∈ wsL_law := wr_wsL_law_r13 _ (List.mem_of_getElem? (i := 3) rfl)
theorem wl_292 : (Cond.code yX4_comesUse cX4_comesUse 2 (some .boolean)) ∈ wsL_law := wr_wsL_law_r13 _ (List.mem_of_getElem? (i := 4) rfl)
theorem wl_293 : (Cond.methodLink RX4 120 yX4_uses) ∈ wsL_law := wr_wsL_law_r13 _ (List.mem_of_getElem? (i := 5) rfl)
theorem wl_294 : (Cond.instanceMethod yX4_uses) ∈ wsL_law := wr_wsL_law_r13 _ (List.mem_of_getElem? (i := 6) rfl)
theorem wl_295 : (Cond.selects RX4 yX4_uses yX4_uses) ∈ wsL_law := wr_wsL_law_r13 _ (List.mem_of_getElem? (i := 7) rfl)
theorem wl_296 : (Cond.code yX4_uses cX4_uses 4 (some .int)) ∈ wsL_law := wr_wsL_law_r13 _ (List.mem_of_getElem? (i := 8) rfl)
theorem wl_297 : (Cond.methodLink RL 23 yX3_jug) ∈ wsL_law := wr_wsL_law_r13 _ (List.mem_of_getElem? (i := 9) rfl)
theorem wl_298 : (Cond.instanceMethod yX3_jug) ∈ wsL_law := wr_wsL_law_r13 _ (List.mem_of_getElem? (i := 10) rfl)
theorem wl_299 : (Cond.selects RX3 yX3_jug yX3_jug) ∈ wsL_law := wr_wsL_law_r13 _ (List.mem_of_getElem? (i := 11) rfl)
theorem wl_300 : (Cond.code yX3_jug cX3_jug 4 (some .int)) ∈ wsL_law := wr_wsL_law_r13 _ (List.mem_of_getElem? (i := 12) rfl)
theorem wl_301 : (Cond.instanceMethod yX0_trueStage) ∈ wsL_law := wr_wsL_law_r13 _ (List.mem_of_getElem? (i := 13) rfl)
theorem wl_302 : (Cond.selects RX0 yX0_trueStage yX0_trueStage) ∈ wsL_law := wr_wsL_law_r13 _ (List.mem_of_getElem? (i := 14) rfl)
theorem wl_303 : (Cond.code yX0_trueStage cX0_trueStage 1 (some .int)) ∈ wsL_law := wr_wsL_law_r13 _ (List.mem_of_getElem? (i := 15) rfl)
theorem wl_304 : (Cond.methodLink RL 27 yX4_jug) ∈ wsL_law := wr_wsL_law_r13 _ (List.mem_of_getElem? (i := 16) rfl)
theorem wl_305 : (Cond.instanceMethod yX4_jug) ∈ wsL_law := wr_wsL_law_r13 _ (List.mem_of_getElem? (i := 17) rfl)
theorem wl_306 : (Cond.selects RX4 yX4_jug yX4_jug) ∈ wsL_law := wr_wsL_law_r13 _ (List.mem_of_getElem? (i := 18) rfl)
theorem wl_307 : (Cond.code yX4_jug cX4_jug 3 (some .int)) ∈ wsL_law := wr_wsL_law_r13 _ (List.mem_of_getElem? (i := 19) rfl)
theorem wl_308 : (Cond.methodLink RX4 186 yX4_truly) ∈ wsL_law := wr_wsL_law_r13 _ (List.mem_of_getElem? (i := 20) rfl)
theorem wl_309 : (Cond.instanceMethod yX4_truly) ∈ wsL_law := wr_wsL_law_r13 _ (List.mem_of_getElem? (i := 21) rfl)
theorem wl_310 : (Cond.selects RX4 yX4_truly yX4_truly) ∈ wsL_law := wr_wsL_law_r13 _ (List.mem_of_getElem? (i := 22) rfl)
theorem wl_311 : (Cond.code yX4_truly cX4_truly 2 (some .int)) ∈ wsL_law := wr_wsL_law_r13 _ (List.mem_of_getElem? (i := 23) rfl)
theorem wl_312 : (Cond.methodLink RX4 183 yX4_stageAt) ∈ wsL_law := wr_wsL_law_r14 _ (List.mem_of_getElem? (i := 0) rfl)
theorem wl_313 : (Cond.static yX4_stageAt) ∈ wsL_law := wr_wsL_law_r14 _ (List.mem_of_getElem? (i := 1) rfl)
theorem wl_314 : (Cond.code yX4_stageAt cX4_stageAt 1 (some .int)) ∈ wsL_law := wr_wsL_law_r14 _ (List.mem_of_getElem? (i := 2) rfl)
theorem wl_315 : (Cond.methodLink RL 28 yX3_cold) ∈ wsL_law := wr_wsL_law_r14 _ (List.mem_of_getElem? (i := 3) rfl)
theorem wl_316 : (Cond.instanceMethod yX3_cold) ∈ wsL_law := wr_wsL_law_r14 _ (List.mem_of_getElem? (i := 4) rfl)
theorem wl_317 : (Cond.selects RX3 yX3_cold yX3_cold) ∈ wsL_law := wr_wsL_law_r14 _ (List.mem_of_getElem? (i := 5) rfl)
theorem wl_318 : (Cond.code yX3_cold cX3_cold 3 (some .int)) ∈ wsL_law := wr_wsL_law_r14 _ (List.mem_of_getElem? (i := 6) rfl)
theorem wl_319 : (Cond.instanceMethod yX1_allPoints) ∈ wsL_law := wr_wsL_law_r14 _ (List.mem_of_getElem? (i := 7) rfl)
theorem wl_320 : (Cond.selects RX1 yX1_allPoints yX1_allPoints) ∈ wsL_law := wr_wsL_law_r14 _ (List.mem_of_getElem? (i := 8) rfl)
theorem wl_321 : (Cond.code yX1_allPoints cX1_allPoints 4 (some .int)) ∈ wsL_law := wr_wsL_law_r14 _ (List.mem_of_getElem? (i := 9) rfl)
theorem wl_322 : (Cond.methodLink RL 31 yX4_cold) ∈ wsL_law := wr_wsL_law_r14 _ (List.mem_of_getElem? (i := 10) rfl)
theorem wl_323 : (Cond.instanceMethod yX4_cold) ∈ wsL_law := wr_wsL_law_r14 _ (List.mem_of_getElem? (i := 11) rfl)
theorem wl_324 : (Cond.selects RX4 yX4_cold yX4_cold) ∈ wsL_law := wr_wsL_law_r14 _ (List.mem_of_getElem? (i := 12) rfl)
theorem wl_325 : (Cond.code yX4_cold cX4_cold 3 (some .int)) ∈ wsL_law := wr_wsL_law_r14 _ (List.mem_of_getElem? (i := 13) rfl)
theorem wl_326 : (Cond.methodLink RX4 189 yX4_allPoints) ∈ wsL_law := wr_wsL_law_r14 _ (List.mem_of_getElem? (i := 14) rfl)
theorem wl_327 : (Cond.instanceMethod yX4_allPoints) ∈ wsL_law := wr_wsL_law_r14 _ (List.mem_of_getElem? (i := 15) rfl)
theorem wl_328 : (Cond.selects RX4 yX4_allPoints yX4_allPoints) ∈ wsL_law := wr_wsL_law_r14 _ (List.mem_of_getElem? (i := 16) rfl)
theorem wl_329 : (Cond.code yX4_allPoints cX4_allPoints 3 (some .int)) ∈ wsL_law := wr_wsL_law_r14 _ (List.mem_of_getElem? (i := 17) rfl)
theorem wl_330 : (Cond.methodLink RL 32 yX3_warm) ∈ wsL_law := wr_wsL_law_r14 _ (List.mem_of_getElem? (i := 18) rfl)
theorem wl_331 : (Cond.instanceMethod yX3_warm) ∈ wsL_law := wr_wsL_law_r14 _ (List.mem_of_getElem? (i := 19) rfl)
theorem wl_332 : (Cond.selects RX3 yX3_warm yX3_warm) ∈ wsL_law := wr_wsL_law_r14 _ (List.mem_of_getElem? (i := 20) rfl)
theorem wl_333 : (Cond.code yX3_warm cX3_warm 5 (some .int)) ∈ wsL_law := wr_wsL_law_r14 _ (List.mem_of_getElem? (i := 21) rfl)
theorem wl_334 : (Cond.methodLink RL 35 yX4_warm) ∈ wsL_law := wr_wsL_law_r14 _ (List.mem_of_getElem? (i := 22) rfl)
theorem wl_335 : (Cond.instanceMethod yX4_warm) ∈ wsL_law := wr_wsL_law_r14 _ (List.mem_of_getElem? (i := 23) rfl)
theorem wl_336 : (Cond.selects RX4 yX4_warm yX4_warm) ∈ wsL_law := wr_wsL_law_r15 _ (List.mem_of_getElem? (i := 0) rfl)
theorem wl_337 : (Cond.code yX4_warm cX4_warm 4 (some .int)) ∈ wsL_law := wr_wsL_law_r15 _ (List.mem_of_getElem? (i := 1) rfl)
theorem wl_338 : (Cond.methodLink RL 36 yX3_hand) ∈ wsL_law := wr_wsL_law_r15 _ (List.mem_of_getElem? (i := 2) rfl)
theorem wl_339 : (Cond.instanceMethod yX3_hand) ∈ wsL_law := wr_wsL_law_r15 _ (List.mem_of_getElem? (i := 3) rfl)
theorem wl_340 : (Cond.selects RX3 yX3_hand yX3_hand) ∈ wsL_law := wr_wsL_law_r15 _ (List.mem_of_getElem? (i := 4) rfl)
theorem wl_341 : (Cond.code yX3_hand cX3_hand 3 (some .int)) ∈ wsL_law := wr_wsL_law_r15 _ (List.mem_of_getElem? (i := 5) rfl)
theorem wl_342 : (Cond.methodLink RL 39 yX4_hand) ∈ wsL_law := wr_wsL_law_r15 _ (List.mem_of_getElem? (i := 6) rfl)
theorem wl_343 : (Cond.instanceMethod yX4_hand) ∈ wsL_law := wr_wsL_law_r15 _ (List.mem_of_getElem? (i := 7) rfl)
theorem wl_344 : (Cond.selects RX4 yX4_hand yX4_hand) ∈ wsL_law := wr_wsL_law_r15 _ (List.mem_of_getElem? (i := 8) rfl)
theorem wl_345 : (Cond.code yX4_hand cX4_hand 3 (some .int)) ∈ wsL_law := wr_wsL_law_r15 _ (List.mem_of_getElem? (i := 9) rfl)
theorem wl_346 : (Cond.methodLink RL 40 yX3_see) ∈ wsL_law := wr_wsL_law_r15 _ (List.mem_of_getElem? (i := 10) rfl)
theorem wl_347 : (Cond.instanceMethod yX3_see) ∈ wsL_law := wr_wsL_law_r15 _ (List.mem_of_getElem? (i := 11) rfl)
theorem wl_348 : (Cond.selects RX3 yX3_see yX3_see) ∈ wsL_law := wr_wsL_law_r15 _ (List.mem_of_getElem? (i := 12) rfl)
theorem wl_349 : (Cond.code yX3_see cX3_see 4 (some .int)) ∈ wsL_law := wr_wsL_law_r15 _ (List.mem_of_getElem? (i := 13) rfl)
theorem wl_350 : (Cond.methodLink RX3 175 yX3_refusalInHand) ∈ wsL_law := wr_wsL_law_r15 _ (List.mem_of_getElem? (i := 14) rfl)
theorem wl_351 : (Cond.instanceMethod yX3_refusalInHand) ∈ wsL_law := wr_wsL_law_r15 _ (List.mem_of_getElem? (i := 15) rfl)
theorem wl_352 : (Cond.selects RX3 yX3_refusalInHand yX3_refusalInHand) ∈ wsL_law := wr_wsL_law_r15 _ (List.mem_of_getElem? (i := 16) rfl)
theorem wl_353 : (Cond.code yX3_refusalInHand cX3_refusalInHand 3 (some .int)) ∈ wsL_law := wr_wsL_law_r15 _ (List.mem_of_getElem? (i := 17) rfl)
theorem wl_354 : (Cond.methodLink RL 43 yX4_see) ∈ wsL_law := wr_wsL_law_r15 _ (List.mem_of_getElem? (i := 18) rfl)
theorem wl_355 : (Cond.instanceMethod yX4_see) ∈ wsL_law := wr_wsL_law_r15 _ (List.mem_of_getElem? (i := 19) rfl)
theorem wl_356 : (Cond.selects RX4 yX4_see yX4_see) ∈ wsL_law := wr_wsL_law_r15 _ (List.mem_of_getElem? (i := 20) rfl)
theorem wl_357 : (Cond.code yX4_see cX4_see 4 (some .int)) ∈ wsL_law := wr_wsL_law_r15 _ (List.mem_of_getElem? (i := 21) rfl)
theorem wl_358 : (Cond.methodLink RX4 192 yX4_isTest) ∈ wsL_law := wr_wsL_law_r15 _ (List.mem_of_getElem? (i := 22) rfl)
theorem wl_359 : (Cond.static yX4_isTest) ∈ wsL_law := wr_wsL_law_r15 _ (List.mem_of_getElem? (i := 23) rfl)
theorem wl_360 : (Cond.code yX4_isTest cX4_isTest 1 (some .boolean)) ∈ wsL_law := wr_wsL_law_r16 _ (List.mem_of_getElem? (i := 0) rfl)
theorem wl_361 : (Cond.methodLink RL 44 yX3_unsee) ∈ wsL_law := wr_wsL_law_r16 _ (List.mem_of_getElem? (i := 1) rfl)
theorem wl_362 : (Cond.instanceMethod yX3_unsee) ∈ wsL_law := wr_wsL_law_r16 _ (List.mem_of_getElem? (i := 2) rfl)
theorem wl_363 : (Cond.selects RX3 yX3_unsee yX3_unsee) ∈ wsL_law := wr_wsL_law_r16 _ (List.mem_of_getElem? (i := 3) rfl)
theorem wl_364 : (Cond.code yX3_unsee cX3_unsee 1 (some .int)) ∈ wsL_law := wr_wsL_law_r16 _ (List.mem_of_getElem? (i := 4) rfl)
theorem wl_365 : (Cond.methodLink RL 47 yX4_unsee) ∈ wsL_law := wr_wsL_law_r16 _ (List.mem_of_getElem? (i := 5) rfl)
theorem wl_366 : (Cond.instanceMethod yX4_unsee) ∈ wsL_law := wr_wsL_law_r16 _ (List.mem_of_getElem? (i := 6) rfl)
theorem wl_367 : (Cond.selects RX4 yX4_unsee yX4_unsee) ∈ wsL_law := wr_wsL_law_r16 _ (List.mem_of_getElem? (i := 7) rfl)
theorem wl_368 : (Cond.code yX4_unsee cX4_unsee 1 (some .int)) ∈ wsL_law := wr_wsL_law_r16 _ (List.mem_of_getElem? (i := 8) rfl)
theorem wl_369 : (Cond.methodLink RL 48 yX3_use) ∈ wsL_law := wr_wsL_law_r16 _ (List.mem_of_getElem? (i := 9) rfl)
theorem wl_370 : (Cond.instanceMethod yX3_use) ∈ wsL_law := wr_wsL_law_r16 _ (List.mem_of_getElem? (i := 10) rfl)
theorem wl_371 : (Cond.selects RX3 yX3_use yX3_use) ∈ wsL_law := wr_wsL_law_r16 _ (List.mem_of_getElem? (i := 11) rfl)
theorem wl_372 : (Cond.code yX3_use cX3_use 4 (some .int)) ∈ wsL_law := wr_wsL_law_r16 _ (List.mem_of_getElem? (i := 12) rfl)
theorem wl_373 : (Cond.methodLink RL 51 yX4_use) ∈ wsL_law := wr_wsL_law_r16 _ (List.mem_of_getElem? (i := 13) rfl)
theorem wl_374 : (Cond.instanceMethod yX4_use) ∈ wsL_law := wr_wsL_law_r16 _ (List.mem_of_getElem? (i := 14) rfl)
theorem wl_375 : (Cond.selects RX4 yX4_use yX4_use) ∈ wsL_law := wr_wsL_law_r16 _ (List.mem_of_getElem? (i := 15) rfl)
theorem wl_376 : (Cond.code yX4_use cX4_use 3 (some .int)) ∈ wsL_law := wr_wsL_law_r16 _ (List.mem_of_getElem? (i := 16) rfl)
theorem wl_377 : (Cond.methodLink RL 52 yX3_cost) ∈ wsL_law := wr_wsL_law_r16 _ (List.mem_of_getElem? (i := 17) rfl)
theorem wl_378 : (Cond.instanceMethod yX3_cost) ∈ wsL_law := wr_wsL_law_r16 _ (List.mem_of_getElem? (i := 18) rfl)
theorem wl_379 : (Cond.selects RX3 yX3_cost yX3_cost) ∈ wsL_law := wr_wsL_law_r16 _ (List.mem_of_getElem? (i := 19) rfl)
theorem wl_380 : (Cond.code yX3_cost cX3_cost 5 (some .int)) ∈ wsL_law := wr_wsL_law_r16 _ (List.mem_of_getElem? (i := 20) rfl)
theorem wl_381 : (Cond.instanceMethod yX1_costOf) ∈ wsL_law := wr_wsL_law_r16 _ (List.mem_of_getElem? (i := 21) rfl)
theorem wl_382 : (Cond.selects RX1 yX1_costOf yX1_costOf) ∈ wsL_law := wr_wsL_law_r16 _ (List.mem_of_getElem? (i := 22) rfl)
theorem wl_383 : (Cond.code yX1_costOf cX1_costOf 2 (some .int)) ∈ wsL_law := wr_wsL_law_r16 _ (List.mem_of_getElem? (i := 23) rfl)
theorem wl_384 : (Cond.methodLink RL 55 yX4_cost) ∈ wsL_law := wr_wsL_law_r17 _ (List.mem_of_getElem? (i := 0) rfl)
theorem wl_385 : (Cond.instanceMethod yX4_cost) ∈ wsL_law := wr_wsL_law_r17 _ (List.mem_of_getElem? (i := 1) rfl)
theorem wl_386 : (Cond.selects RX4 yX4_cost yX4_cost) ∈ wsL_law := wr_wsL_law_r17 _ (List.mem_of_getElem? (i := 2) rfl)
theorem wl_387 : (Cond.code yX4_cost cX4_cost 5 (some .int)) ∈ wsL_law := wr_wsL_law_r17 _ (List.mem_of_getElem? (i := 3) rfl)
theorem wl_388 : (Cond.methodLink RL 56 yX3_price) ∈ wsL_law := wr_wsL_law_r17 _ (List.mem_of_getElem? (i := 4) rfl)
theorem wl_389 : (Cond.instanceMethod yX3_price) ∈ wsL_law := wr_wsL_law_r17 _ (List.mem_of_getElem? (i := 5) rfl)
theorem wl_390 : (Cond.selects RX3 yX3_price yX3_price) ∈ wsL_law := wr_wsL_law_r17 _ (List.mem_of_getElem? (i := 6) rfl)
theorem wl_391 : (Cond.code yX3_price cX3_price 4 (some .int)) ∈ wsL_law := wr_wsL_law_r17 _ (List.mem_of_getElem? (i := 7) rfl)
theorem wl_392 : (Cond.methodLink RL 59 yX4_price) ∈ wsL_law := wr_wsL_law_r17 _ (List.mem_of_getElem? (i := 8) rfl)
theorem wl_393 : (Cond.instanceMethod yX4_price) ∈ wsL_law := wr_wsL_law_r17 _ (List.mem_of_getElem? (i := 9) rfl)
theorem wl_394 : (Cond.selects RX4 yX4_price yX4_price) ∈ wsL_law := wr_wsL_law_r17 _ (List.mem_of_getElem? (i := 10) rfl)
theorem wl_395 : (Cond.code yX4_price cX4_price 4 (some .int)) ∈ wsL_law := wr_wsL_law_r17 _ (List.mem_of_getElem? (i := 11) rfl)
theorem wl_396 : (Cond.methodLink RL 60 yX3_says) ∈ wsL_law := wr_wsL_law_r17 _ (List.mem_of_getElem? (i := 12) rfl)
theorem wl_397 : (Cond.instanceMethod yX3_says) ∈ wsL_law := wr_wsL_law_r17 _ (List.mem_of_getElem? (i := 13) rfl)
theorem wl_398 : (Cond.selects RX3 yX3_says yX3_says) ∈ wsL_law := wr_wsL_law_r17 _ (List.mem_of_getElem? (i := 14) rfl)
theorem wl_399 : (Cond.code yX3_says cX3_says 4 (some .int)) ∈ wsL_law := wr_wsL_law_r17 _ (List.mem_of_getElem? (i := 15) rfl)
theorem wl_400 : (Cond.methodLink RX3 189 yX3_think) ∈ wsL_law := wr_wsL_law_r17 _ (List.mem_of_getElem? (i := 16) rfl)
theorem wl_401 : (Cond.instanceMethod yX3_think) ∈ wsL_law := wr_wsL_law_r17 _ (List.mem_of_getElem? (i := 17) rfl)
theorem wl_402 : (Cond.selects RX3 yX3_think yX3_think) ∈ wsL_law := wr_wsL_law_r17 _ (List.mem_of_getElem? (i := 18) rfl)
theorem wl_403 : (Cond.code yX3_think cX3_think 3 none) ∈ wsL_law := wr_wsL_law_r17 _ (List.mem_of_getElem? (i := 19) rfl)
theorem wl_404 : (Cond.instanceMethod yX2_weigh) ∈ wsL_law := wr_wsL_law_r17 _ (List.mem_of_getElem? (i := 20) rfl)
theorem wl_405 : (Cond.selects RX2 yX2_weigh yX2_weigh) ∈ wsL_law := wr_wsL_law_r17 _ (List.mem_of_getElem? (i := 21) rfl)
theorem wl_406 : (Cond.code yX2_weigh cX2_weigh 3 none) ∈ wsL_law := wr_wsL_law_r17 _ (List.mem_of_getElem? (i := 22) rfl)
theorem wl_407 : (Cond.instanceMethod yX0_weightOf) ∈ wsL_law := wr_wsL_law_r17 _ (List.mem_of_getElem? (i := 23) rfl)
theorem wl_408 : (Cond.selects RX0 yX0_weightOf yX0_weightOf) ∈ wsL_law := wr_wsL_law_r18 _ (List.mem_of_getElem? (i := 0) rfl)
theorem wl_409 : (Cond.code yX0_weightOf cX0_weightOf 3 (some .int)) ∈ wsL_law := wr_wsL_law_r18 _ (List.mem_of_getElem? (i := 1) rfl)
theorem wl_410 : (Cond.methodLink RX0 38 Lib.Math.abs.name) ∈ wsL_law := wr_wsL_law_r18 _ (List.mem_of_getElem? (i := 2) rfl)
theorem wl_411 : (Cond.static Lib.Math.abs.name) ∈ wsL_law := wr_wsL_law_r18 _ (List.mem_of_getElem? (i := 3) rfl)
theorem wl_412 : (Cond.code Lib.Math.abs.name Lib.Math.abs.code 1 (some .int)) ∈ wsL_law := wr_wsL_law_r18 _ (List.mem_of_getElem? (i := 4) rfl)
theorem wl_413 : (Cond.methodLink RX0 42 Lib.Math.max.name) ∈ wsL_law := wr_wsL_law_r18 _ (List.mem_of_getElem? (i := 5) rfl)
theorem wl_414 : (Cond.methodLink RX0 34 yX0_trueStage) ∈ wsL_law := wr_wsL_law_r18 _ (List.mem_of_getElem? (i := 6) rfl)
theorem wl_415 : (Cond.instanceMethod yX2_narrow) ∈ wsL_law := wr_wsL_law_r18 _ (List.mem_of_getElem? (i := 7) rfl)
theorem wl_416 : (Cond.selects RX2 yX2_narrow yX2_narrow) ∈ wsL_law := wr_wsL_law_r18 _ (List.mem_of_getElem? (i := 8) rfl)
theorem wl_417 : (Cond.code yX2_narrow cX2_narrow 7 none) ∈ wsL_law := wr_wsL_law_r18 _ (List.mem_of_getElem? (i := 9) rfl)
theorem wl_418 : (Cond.instanceMethod yX0_offTenths) ∈ wsL_law := wr_wsL_law_r18 _ (List.mem_of_getElem? (i := 10) rfl)
theorem wl_419 : (Cond.selects RX0 yX0_offTenths yX0_offTenths) ∈ wsL_law := wr_wsL_law_r18 _ (List.mem_of_getElem? (i := 11) rfl)
theorem wl_420 : (Cond.code yX0_offTenths cX0_offTenths 4 (some .int)) ∈ wsL_law := wr_wsL_law_r18 _ (List.mem_of_getElem? (i := 12) rfl)
theorem wl_421 : (Cond.static yX3_heldTenths) ∈ wsL_law := wr_wsL_law_r18 _ (List.mem_of_getElem? (i := 13) rfl)
theorem wl_422 : (Cond.code yX3_heldTenths cX3_heldTenths 1 (some .int)) ∈ wsL_law := wr_wsL_law_r18 _ (List.mem_of_getElem? (i := 14) rfl)
theorem wl_423 : (Cond.methodLink RX3 301 Lib.Math.min.name) ∈ wsL_law := wr_wsL_law_r18 _ (List.mem_of_getElem? (i := 15) rfl)
theorem wl_424 : (Cond.methodLink RX2 25 yX2_sumOf) ∈ wsL_law := wr_wsL_law_r18 _ (List.mem_of_getElem? (i := 16) rfl)
theorem wl_425 : (Cond.instanceMethod yX2_sumOf) ∈ wsL_law := wr_wsL_law_r18 _ (List.mem_of_getElem? (i := 17) rfl)
theorem wl_426 : (Cond.selects RX2 yX2_sumOf yX2_sumOf) ∈ wsL_law := wr_wsL_law_r18 _ (List.mem_of_getElem? (i := 18) rfl)
theorem wl_427 : (Cond.code yX2_sumOf cX2_sumOf 6 (some .long)) ∈ wsL_law := wr_wsL_law_r18 _ (List.mem_of_getElem? (i := 19) rfl)
theorem wl_428 : (Cond.methodLink RX2 33 Lib.Math.max.name) ∈ wsL_law := wr_wsL_law_r18 _ (List.mem_of_getElem? (i := 20) rfl)
theorem wl_429 : (Cond.methodLink RL 63 yX4_says) ∈ wsL_law := wr_wsL_law_r18 _ (List.mem_of_getElem? (i := 21) rfl)
theorem wl_430 : (Cond.instanceMethod yX4_says) ∈ wsL_law := wr_wsL_law_r18 _ (List.mem_of_getElem? (i := 22) rfl)
theorem wl_431 : (Cond.selects RX4 yX4_says yX4_says) ∈ wsL_law := wr_wsL_law_r18 _ (List.mem_of_getElem? (i := 23) rfl)
theorem wl_432 : (Cond.code yX4_says cX4_says 4 (some .int)) ∈ wsL_law := wr_wsL_law_r19 _ (List.mem_of_getElem? (i := 0) rfl)
theorem wl_433 : (Cond.methodLink RX4 232 yX4_isStage) ∈ wsL_law := wr_wsL_law_r19 _ (List.mem_of_getElem? (i := 1) rfl)
theorem wl_434 : (Cond.static yX4_isStage) ∈ wsL_law := wr_wsL_law_r19 _ (List.mem_of_getElem? (i := 2) rfl)
theorem wl_435 : (Cond.code yX4_isStage cX4_isStage 1 (some .boolean)) ∈ wsL_law := wr_wsL_law_r19 _ (List.mem_of_getElem? (i := 3) rfl)
theorem wl_436 : (Cond.methodLink RX4 214 yX4_saysOff) ∈ wsL_law := wr_wsL_law_r19 _ (List.mem_of_getElem? (i := 4) rfl)
theorem wl_437 : (Cond.instanceMethod yX4_saysOff) ∈ wsL_law := wr_wsL_law_r19 _ (List.mem_of_getElem? (i := 5) rfl)
theorem wl_438 : (Cond.selects RX4 yX4_saysOff yX4_saysOff) ∈ wsL_law := wr_wsL_law_r19 _ (List.mem_of_getElem? (i := 6) rfl)
theorem wl_439 : (Cond.code yX4_saysOff cX4_saysOff 5 (some .int)) ∈ wsL_law := wr_wsL_law_r19 _ (List.mem_of_getElem? (i := 7) rfl)
theorem wl_440 : (Cond.methodLink RX4 195 yX4_tenthsOf) ∈ wsL_law := wr_wsL_law_r19 _ (List.mem_of_getElem? (i := 8) rfl)
theorem wl_441 : (Cond.static yX4_tenthsOf) ∈ wsL_law := wr_wsL_law_r19 _ (List.mem_of_getElem? (i := 9) rfl)
theorem wl_442 : (Cond.code yX4_tenthsOf cX4_tenthsOf 2 (some .int)) ∈ wsL_law := wr_wsL_law_r19 _ (List.mem_of_getElem? (i := 10) rfl)
theorem wl_443 : (Cond.methodLink RX4 199 yX4_held) ∈ wsL_law := wr_wsL_law_r19 _ (List.mem_of_getElem? (i := 11) rfl)
theorem wl_444 : (Cond.static yX4_held) ∈ wsL_law := wr_wsL_law_r19 _ (List.mem_of_getElem? (i := 12) rfl)
theorem wl_445 : (Cond.code yX4_held cX4_held 1 (some .int)) ∈ wsL_law := wr_wsL_law_r19 _ (List.mem_of_getElem? (i := 13) rfl)
theorem wl_446 : (Cond.methodLink RL 64 yX3_thought) ∈ wsL_law := wr_wsL_law_r19 _ (List.mem_of_getElem? (i := 14) rfl)
theorem wl_447 : (Cond.instanceMethod yX3_thought) ∈ wsL_law := wr_wsL_law_r19 _ (List.mem_of_getElem? (i := 15) rfl)
theorem wl_448 : (Cond.selects RX3 yX3_thought yX3_thought) ∈ wsL_law := wr_wsL_law_r19 _ (List.mem_of_getElem? (i := 16) rfl)
theorem wl_449 : (Cond.code yX3_thought cX3_thought 3 (some .long)) ∈ wsL_law := wr_wsL_law_r19 _ (List.mem_of_getElem? (i := 17) rfl)
theorem wl_450 : (Cond.methodLink RX3 195 yX3_refuseLong) ∈ wsL_law := wr_wsL_law_r19 _ (List.mem_of_getElem? (i := 18) rfl)
theorem wl_451 : (Cond.instanceMethod yX3_refuseLong) ∈ wsL_law := wr_wsL_law_r19 _ (List.mem_of_getElem? (i := 19) rfl)
theorem wl_452 : (Cond.selects RX3 yX3_refuseLong yX3_refuseLong) ∈ wsL_law := wr_wsL_law_r19 _ (List.mem_of_getElem? (i := 20) rfl)
theorem wl_453 : (Cond.code yX3_refuseLong cX3_refuseLong 2 (some .long)) ∈ wsL_law := wr_wsL_law_r19 _ (List.mem_of_getElem? (i := 21) rfl)
theorem wl_454 : (Cond.constantLong RX3 347 (4000000000000000000)) ∈ wsL_law := wr_wsL_law_r19 _ (List.mem_of_getElem? (i := 22) rfl)
theorem wl_455 : (Cond.methodLink RL 68 yX4_thought) ∈ wsL_law := wr_wsL_law_r19 _ (List.mem_of_getElem? (i := 23) rfl)
theorem wl_456 : (Cond.instanceMethod yX4_thought) ∈ wsL_law := wr_wsL_law_r20 _ (List.mem_of_getElem? (i := 0) rfl)
theorem wl_457 : (Cond.selects RX4 yX4_thought yX4_thought) ∈ wsL_law := wr_wsL_law_r20 _ (List.mem_of_getElem? (i := 1) rfl)
theorem wl_458 : (Cond.code yX4_thought cX4_thought 3 (some .long)) ∈ wsL_law := wr_wsL_law_r20 _ (List.mem_of_getElem? (i := 2) rfl)
theorem wl_459 : (Cond.methodLink RX4 235 yX4_lowest) ∈ wsL_law := wr_wsL_law_r20 _ (List.mem_of_getElem? (i := 3) rfl)
theorem wl_460 : (Cond.instanceMethod yX4_lowest) ∈ wsL_law := wr_wsL_law_r20 _ (List.mem_of_getElem? (i := 4) rfl)
theorem wl_461 : (Cond.selects RX4 yX4_lowest yX4_lowest) ∈ wsL_law := wr_wsL_law_r20 _ (List.mem_of_getElem? (i := 5) rfl)
theorem wl_462 : (Cond.code yX4_lowest cX4_lowest 2 (some .long)) ∈ wsL_law := wr_wsL_law_r20 _ (List.mem_of_getElem? (i := 6) rfl)
theorem wl_463 : (Cond.constantLong RX4 73 (4000000000000000000)) ∈ wsL_law := wr_wsL_law_r20 _ (List.mem_of_getElem? (i := 7) rfl)
theorem wl_464 : (Cond.methodLink RX4 239 yX4_findThought) ∈ wsL_law := wr_wsL_law_r20 _ (List.mem_of_getElem? (i := 8) rfl)
theorem wl_465 : (Cond.instanceMethod yX4_findThought) ∈ wsL_law := wr_wsL_law_r20 _ (List.mem_of_getElem? (i := 9) rfl)
theorem wl_466 : (Cond.selects RX4 yX4_findThought yX4_findThought) ∈ wsL_law := wr_wsL_law_r20 _ (List.mem_of_getElem? (i := 10) rfl)
theorem wl_467 : (Cond.code yX4_findThought cX4_findThought 4 none) ∈ wsL_law := wr_wsL_law_r20 _ (List.mem_of_getElem? (i := 11) rfl)
theorem wl_468 : (Cond.methodLink RX4 211 yX4_weightAt) ∈ wsL_law := wr_wsL_law_r20 _ (List.mem_of_getElem? (i := 12) rfl)
theorem wl_469 : (Cond.instanceMethod yX4_weightAt) ∈ wsL_law := wr_wsL_law_r20 _ (List.mem_of_getElem? (i := 13) rfl)
theorem wl_470 : (Cond.selects RX4 yX4_weightAt yX4_weightAt) ∈ wsL_law := wr_wsL_law_r20 _ (List.mem_of_getElem? (i := 14) rfl)
theorem wl_471 : (Cond.code yX4_weightAt cX4_weightAt 6 (some .int)) ∈ wsL_law := wr_wsL_law_r20 _ (List.mem_of_getElem? (i := 15) rfl)
theorem wl_472 : (Cond.methodLink RL 69 yX3_likely) ∈ wsL_law := wr_wsL_law_r20 _ (List.mem_of_getElem? (i := 16) rfl)
theorem wl_473 : (Cond.instanceMethod yX3_likely) ∈ wsL_law := wr_wsL_law_r20 _ (List.mem_of_getElem? (i := 17) rfl)
theorem wl_474 : (Cond.selects RX3 yX3_likely yX3_likely) ∈ wsL_law := wr_wsL_law_r20 _ (List.mem_of_getElem? (i := 18) rfl)
theorem wl_475 : (Cond.code yX3_likely cX3_likely 4 (some .long)) ∈ wsL_law := wr_wsL_law_r20 _ (List.mem_of_getElem? (i := 19) rfl)
theorem wl_476 : (Cond.instanceMethod yX2_sumOfAll) ∈ wsL_law := wr_wsL_law_r20 _ (List.mem_of_getElem? (i := 20) rfl)
theorem wl_477 : (Cond.selects RX2 yX2_sumOfAll yX2_sumOfAll) ∈ wsL_law := wr_wsL_law_r20 _ (List.mem_of_getElem? (i := 21) rfl)
theorem wl_478 : (Cond.code yX2_sumOfAll cX2_sumOfAll 1 (some .long)) ∈ wsL_law := wr_wsL_law_r20 _ (List.mem_of_getElem? (i := 22) rfl)
theorem wl_479 : (Cond.methodLink RX3 207 yX3_inLeastTerms) ∈ wsL_law := wr_wsL_law_r20 _ (List.mem_of_getElem? (i := 23) rfl)
theorem wl_480 : (Cond.static yX3_inLeastTerms) ∈ wsL_law := wr_wsL_law_r21 _ (List.mem_of_getElem? (i := 0) rfl)
theorem wl_481 : (Cond.code yX3_inLeastTerms cX3_inLeastTerms 12 (some .long)) ∈ wsL_law := wr_wsL_law_r21 _ (List.mem_of_getElem? (i := 1) rfl)
theorem wl_482 : (Cond.methodLink RX3 352 Lib.MathLoose.abs_long.x) ∈ wsL_law := wr_wsL_law_r21 _ (List.mem_of_getElem? (i := 2) rfl)
theorem wl_483 : (Cond.static Lib.MathLoose.abs_long.x) ∈ wsL_law := wr_wsL_law_r21 _ (List.mem_of_getElem? (i := 3) rfl)
theorem wl_484 : (Cond.code Lib.MathLoose.abs_long.x Lib.MathLoose.abs_long.code 2 (some .long)) ∈ wsL_law := wr_wsL_law_r21 _ (List.mem_of_getElem? (i := 4) rfl)
theorem wl_485 : (Cond.methodLink RL 73 yX4_likely) ∈ wsL_law := wr_wsL_law_r21 _ (List.mem_of_getElem? (i := 5) rfl)
theorem wl_486 : (Cond.instanceMethod yX4_likely) ∈ wsL_law := wr_wsL_law_r21 _ (List.mem_of_getElem? (i := 6) rfl)
theorem wl_487 : (Cond.selects RX4 yX4_likely yX4_likely) ∈ wsL_law := wr_wsL_law_r21 _ (List.mem_of_getElem? (i := 7) rfl)
theorem wl_488 : (Cond.code yX4_likely cX4_likely 4 (some .long)) ∈ wsL_law := wr_wsL_law_r21 _ (List.mem_of_getElem? (i := 8) rfl)
theorem wl_489 : (Cond.methodLink RX4 242 yX4_allThought) ∈ wsL_law := wr_wsL_law_r21 _ (List.mem_of_getElem? (i := 9) rfl)
theorem wl_490 : (Cond.instanceMethod yX4_allThought) ∈ wsL_law := wr_wsL_law_r21 _ (List.mem_of_getElem? (i := 10) rfl)
theorem wl_491 : (Cond.selects RX4 yX4_allThought yX4_allThought) ∈ wsL_law := wr_wsL_law_r21 _ (List.mem_of_getElem? (i := 11) rfl)
theorem wl_492 : (Cond.code yX4_allThought cX4_allThought 4 (some .long)) ∈ wsL_law := wr_wsL_law_r21 _ (List.mem_of_getElem? (i := 12) rfl)
theorem wl_493 : (Cond.methodLink RX4 246 yX4_partOf) ∈ wsL_law := wr_wsL_law_r21 _ (List.mem_of_getElem? (i := 13) rfl)
theorem wl_494 : (Cond.static yX4_partOf) ∈ wsL_law := wr_wsL_law_r21 _ (List.mem_of_getElem? (i := 14) rfl)
theorem wl_495 : (Cond.code yX4_partOf cX4_partOf 5 (some .long)) ∈ wsL_law := wr_wsL_law_r21 _ (List.mem_of_getElem? (i := 15) rfl)
theorem wl_496 : (Cond.methodLink RX4 228 yX4_divisor) ∈ wsL_law := wr_wsL_law_r21 _ (List.mem_of_getElem? (i := 16) rfl)
theorem wl_497 : (Cond.static yX4_divisor) ∈ wsL_law := wr_wsL_law_r21 _ (List.mem_of_getElem? (i := 17) rfl)
theorem wl_498 : (Cond.code yX4_divisor cX4_divisor 10 (some .long)) ∈ wsL_law := wr_wsL_law_r21 _ (List.mem_of_getElem? (i := 18) rfl)
theorem wl_499 : (Cond.methodLink RL 74 yX3_good) ∈ wsL_law := wr_wsL_law_r21 _ (List.mem_of_getElem? (i := 19) rfl)
theorem wl_500 : (Cond.instanceMethod yX3_good) ∈ wsL_law := wr_wsL_law_r21 _ (List.mem_of_getElem? (i := 20) rfl)
theorem wl_501 : (Cond.selects RX3 yX3_good yX3_good) ∈ wsL_law := wr_wsL_law_r21 _ (List.mem_of_getElem? (i := 21) rfl)
theorem wl_502 : (Cond.code yX3_good cX3_good 3 (some .long)) ∈ wsL_law := wr_wsL_law_r21 _ (List.mem_of_getElem? (i := 22) rfl)
theorem wl_503 : (Cond.methodLink RL 77 yX4_good) ∈ wsL_law := wr_wsL_law_r21 _ (List.mem_of_getElem? (i := 23) rfl)
theorem wl_504 : (Cond.instanceMethod yX4_good) ∈ wsL_law := wr_wsL_law_r22 _ (List.mem_of_getElem? (i := 0) rfl)
theorem wl_505 : (Cond.selects RX4 yX4_good yX4_good) ∈ wsL_law := wr_wsL_law_r22 _ (List.mem_of_getElem? (i := 1) rfl)
theorem wl_506 : (Cond.code yX4_good cX4_good 3 (some .long)) ∈ wsL_law := wr_wsL_law_r22 _ (List.mem_of_getElem? (i := 2) rfl)
theorem wl_507 : (Cond.methodLink RL 78 yX3_mean) ∈ wsL_law := wr_wsL_law_r22 _ (List.mem_of_getElem? (i := 3) rfl)
theorem wl_508 : (Cond.instanceMethod yX3_mean) ∈ wsL_law := wr_wsL_law_r22 _ (List.mem_of_getElem? (i := 4) rfl)
theorem wl_509 : (Cond.selects RX3 yX3_mean yX3_mean) ∈ wsL_law := wr_wsL_law_r22 _ (List.mem_of_getElem? (i := 5) rfl)
theorem wl_510 : (Cond.code yX3_mean cX3_mean 5 (some .long)) ∈ wsL_law := wr_wsL_law_r22 _ (List.mem_of_getElem? (i := 6) rfl)
theorem wl_511 : (Cond.instanceMethod yX1_netSum) ∈ wsL_law := wr_wsL_law_r22 _ (List.mem_of_getElem? (i := 7) rfl)
theorem wl_512 : (Cond.selects RX1 yX1_netSum yX1_netSum) ∈ wsL_law := wr_wsL_law_r22 _ (List.mem_of_getElem? (i := 8) rfl)
theorem wl_513 : (Cond.code yX1_netSum cX1_netSum 7 (some .long)) ∈ wsL_law := wr_wsL_law_r22 _ (List.mem_of_getElem? (i := 9) rfl)
theorem wl_514 : (Cond.methodLink RX1 110 yX1_netOf) ∈ wsL_law := wr_wsL_law_r22 _ (List.mem_of_getElem? (i := 10) rfl)
theorem wl_515 : (Cond.instanceMethod yX1_netOf) ∈ wsL_law := wr_wsL_law_r22 _ (List.mem_of_getElem? (i := 11) rfl)
theorem wl_516 : (Cond.selects RX1 yX1_netOf yX1_netOf) ∈ wsL_law := wr_wsL_law_r22 _ (List.mem_of_getElem? (i := 12) rfl)
theorem wl_517 : (Cond.code yX1_netOf cX1_netOf 6 (some .int)) ∈ wsL_law := wr_wsL_law_r22 _ (List.mem_of_getElem? (i := 13) rfl)
theorem wl_518 : (Cond.methodLink RL 82 yX4_mean) ∈ wsL_law := wr_wsL_law_r22 _ (List.mem_of_getElem? (i := 14) rfl)
theorem wl_519 : (Cond.instanceMethod yX4_mean) ∈ wsL_law := wr_wsL_law_r22 _ (List.mem_of_getElem? (i := 15) rfl)
theorem wl_520 : (Cond.selects RX4 yX4_mean yX4_mean) ∈ wsL_law := wr_wsL_law_r22 _ (List.mem_of_getElem? (i := 16) rfl)
theorem wl_521 : (Cond.code yX4_mean cX4_mean 5 (some .long)) ∈ wsL_law := wr_wsL_law_r22 _ (List.mem_of_getElem? (i := 17) rfl)
theorem wl_522 : (Cond.methodLink RX4 250 yX4_isWhom) ∈ wsL_law := wr_wsL_law_r22 _ (List.mem_of_getElem? (i := 18) rfl)
theorem wl_523 : (Cond.static yX4_isWhom) ∈ wsL_law := wr_wsL_law_r22 _ (List.mem_of_getElem? (i := 19) rfl)
theorem wl_524 : (Cond.code yX4_isWhom cX4_isWhom 1 (some .boolean)) ∈ wsL_law := wr_wsL_law_r22 _ (List.mem_of_getElem? (i := 20) rfl)
theorem wl_525 : (Cond.methodLink RX4 220 yX4_netBy) ∈ wsL_law := wr_wsL_law_r22 _ (List.mem_of_getElem? (i := 21) rfl)
theorem wl_526 : (Cond.instanceMethod yX4_netBy) ∈ wsL_law := wr_wsL_law_r22 _ (List.mem_of_getElem? (i := 22) rfl)
theorem wl_527 : (Cond.selects RX4 yX4_netBy yX4_netBy) ∈ wsL_law := wr_wsL_law_r22 _ (List.mem_of_getElem? (i := 23) rfl)
theorem wl_528 : (Cond.code yX4_netBy cX4_netBy 7 (some .long)) ∈ wsL_law := wr_wsL_law_r23 _ (List.mem_of_getElem? (i := 0) rfl)
theorem wl_529 : (Cond.methodLink RX4 217 yX4_netOf) ∈ wsL_law := wr_wsL_law_r23 _ (List.mem_of_getElem? (i := 1) rfl)
theorem wl_530 : (Cond.instanceMethod yX4_netOf) ∈ wsL_law := wr_wsL_law_r23 _ (List.mem_of_getElem? (i := 2) rfl)
theorem wl_531 : (Cond.selects RX4 yX4_netOf yX4_netOf) ∈ wsL_law := wr_wsL_law_r23 _ (List.mem_of_getElem? (i := 3) rfl)
theorem wl_532 : (Cond.code yX4_netOf cX4_netOf 4 (some .int)) ∈ wsL_law := wr_wsL_law_r23 _ (List.mem_of_getElem? (i := 4) rfl)
theorem wl_533 : (Cond.methodLink RX4 202 yX4_worthOf) ∈ wsL_law := wr_wsL_law_r23 _ (List.mem_of_getElem? (i := 5) rfl)
theorem wl_534 : (Cond.instanceMethod yX4_worthOf) ∈ wsL_law := wr_wsL_law_r23 _ (List.mem_of_getElem? (i := 6) rfl)
theorem wl_535 : (Cond.selects RX4 yX4_worthOf yX4_worthOf) ∈ wsL_law := wr_wsL_law_r23 _ (List.mem_of_getElem? (i := 7) rfl)
theorem wl_536 : (Cond.code yX4_worthOf cX4_worthOf 3 (some .int)) ∈ wsL_law := wr_wsL_law_r23 _ (List.mem_of_getElem? (i := 8) rfl)
theorem wl_537 : (Cond.methodLink RX4 205 yX4_harmOf) ∈ wsL_law := wr_wsL_law_r23 _ (List.mem_of_getElem? (i := 9) rfl)
theorem wl_538 : (Cond.static yX4_harmOf) ∈ wsL_law := wr_wsL_law_r23 _ (List.mem_of_getElem? (i := 10) rfl)
theorem wl_539 : (Cond.code yX4_harmOf cX4_harmOf 3 (some .int)) ∈ wsL_law := wr_wsL_law_r23 _ (List.mem_of_getElem? (i := 11) rfl)
theorem wl_540 : (Cond.methodLink RX4 208 yX4_timesFor) ∈ wsL_law := wr_wsL_law_r23 _ (List.mem_of_getElem? (i := 12) rfl)
theorem wl_541 : (Cond.static yX4_timesFor) ∈ wsL_law := wr_wsL_law_r23 _ (List.mem_of_getElem? (i := 13) rfl)
theorem wl_542 : (Cond.code yX4_timesFor cX4_timesFor 1 (some .int)) ∈ wsL_law := wr_wsL_law_r23 _ (List.mem_of_getElem? (i := 14) rfl)
theorem wl_543 : (Cond.methodLink RL 83 yX3_best) ∈ wsL_law := wr_wsL_law_r23 _ (List.mem_of_getElem? (i := 15) rfl)
theorem wl_544 : (Cond.instanceMethod yX3_best) ∈ wsL_law := wr_wsL_law_r23 _ (List.mem_of_getElem? (i := 16) rfl)
theorem wl_545 : (Cond.selects RX3 yX3_best yX3_best) ∈ wsL_law := wr_wsL_law_r23 _ (List.mem_of_getElem? (i := 17) rfl)
theorem wl_546 : (Cond.code yX3_best cX3_best 3 (some .int)) ∈ wsL_law := wr_wsL_law_r23 _ (List.mem_of_getElem? (i := 18) rfl)
theorem wl_547 : (Cond.instanceMethod yX1_bestUse) ∈ wsL_law := wr_wsL_law_r23 _ (List.mem_of_getElem? (i := 19) rfl)
theorem wl_548 : (Cond.selects RX1 yX1_bestUse yX1_bestUse) ∈ wsL_law := wr_wsL_law_r23 _ (List.mem_of_getElem? (i := 20) rfl)
theorem wl_549 : (Cond.code yX1_bestUse cX1_bestUse 9 (some .int)) ∈ wsL_law := wr_wsL_law_r23 _ (List.mem_of_getElem? (i := 21) rfl)
theorem wl_550 : (Cond.methodLink RX1 120 yX1_netSum) ∈ wsL_law := wr_wsL_law_r23 _ (List.mem_of_getElem? (i := 22) rfl)
theorem wl_551 : (Cond.methodLink RL 86 yX4_best) ∈ wsL_law := wr_wsL_law_r23 _ (List.mem_of_getElem? (i := 23) rfl)
theorem wl_552 : (Cond.instanceMethod yX4_best) ∈ wsL_law := wr_wsL_law_r24 _ (List.mem_of_getElem? (i := 0) rfl)
theorem wl_553 : (Cond.selects RX4 yX4_best yX4_best) ∈ wsL_law := wr_wsL_law_r24 _ (List.mem_of_getElem? (i := 1) rfl)
theorem wl_554 : (Cond.code yX4_best cX4_best 3 (some .int)) ∈ wsL_law := wr_wsL_law_r24 _ (List.mem_of_getElem? (i := 2) rfl)
theorem wl_555 : (Cond.methodLink RX4 253 yX4_notBest) ∈ wsL_law := wr_wsL_law_r24 _ (List.mem_of_getElem? (i := 3) rfl)
theorem wl_556 : (Cond.instanceMethod yX4_notBest) ∈ wsL_law := wr_wsL_law_r24 _ (List.mem_of_getElem? (i := 4) rfl)
theorem wl_557 : (Cond.selects RX4 yX4_notBest yX4_notBest) ∈ wsL_law := wr_wsL_law_r24 _ (List.mem_of_getElem? (i := 5) rfl)
theorem wl_558 : (Cond.code yX4_notBest cX4_notBest 2 (some .int)) ∈ wsL_law := wr_wsL_law_r24 _ (List.mem_of_getElem? (i := 6) rfl)
theorem wl_559 : (Cond.methodLink RX4 224 yX4_bestUse) ∈ wsL_law := wr_wsL_law_r24 _ (List.mem_of_getElem? (i := 7) rfl)
theorem wl_560 : (Cond.instanceMethod yX4_bestUse) ∈ wsL_law := wr_wsL_law_r24 _ (List.mem_of_getElem? (i := 8) rfl)
theorem wl_561 : (Cond.selects RX4 yX4_bestUse yX4_bestUse) ∈ wsL_law := wr_wsL_law_r24 _ (List.mem_of_getElem? (i := 9) rfl)
theorem wl_562 : (Cond.code yX4_bestUse cX4_bestUse 5 (some .int)) ∈ wsL_law := wr_wsL_law_r24 _ (List.mem_of_getElem? (i := 10) rfl)
theorem wl_563 : (Cond.methodLink RL 87 yX3_sure) ∈ wsL_law := wr_wsL_law_r24 _ (List.mem_of_getElem? (i := 11) rfl)
theorem wl_564 : (Cond.instanceMethod yX3_sure) ∈ wsL_law := wr_wsL_law_r24 _ (List.mem_of_getElem? (i := 12) rfl)
theorem wl_565 : (Cond.selects RX3 yX3_sure yX3_sure) ∈ wsL_law := wr_wsL_law_r24 _ (List.mem_of_getElem? (i := 13) rfl)
theorem wl_566 : (Cond.code yX3_sure cX3_sure 5 (some .int)) ∈ wsL_law := wr_wsL_law_r24 _ (List.mem_of_getElem? (i := 14) rfl)
theorem wl_567 : (Cond.methodLink RX3 219 yX3_harmSum) ∈ wsL_law := wr_wsL_law_r24 _ (List.mem_of_getElem? (i := 15) rfl)
theorem wl_568 : (Cond.static yX3_harmSum) ∈ wsL_law := wr_wsL_law_r24 _ (List.mem_of_getElem? (i := 16) rfl)
theorem wl_569 : (Cond.code yX3_harmSum cX3_harmSum 5 (some .long)) ∈ wsL_law := wr_wsL_law_r24 _ (List.mem_of_getElem? (i := 17) rfl)
theorem wl_570 : (Cond.methodLink RX3 240 yX3_harmOf) ∈ wsL_law := wr_wsL_law_r24 _ (List.mem_of_getElem? (i := 18) rfl)
theorem wl_571 : (Cond.static yX3_harmOf) ∈ wsL_law := wr_wsL_law_r24 _ (List.mem_of_getElem? (i := 19) rfl)
theorem wl_572 : (Cond.code yX3_harmOf cX3_harmOf 2 (some .int)) ∈ wsL_law := wr_wsL_law_r24 _ (List.mem_of_getElem? (i := 20) rfl)
theorem wl_573 : (Cond.fieldLink RX3 349 "StillGood" "CUP_HARM" "[I") ∈ wsL_law := wr_wsL_law_r24 _ (List.mem_of_getElem? (i := 21) rfl)
theorem wl_574 : (Cond.methodLink RL 90 yX4_sure) ∈ wsL_law := wr_wsL_law_r24 _ (List.mem_of_getElem? (i := 22) rfl)
theorem wl_575 : (Cond.instanceMethod yX4_sure) ∈ wsL_law := wr_wsL_law_r24 _ (List.mem_of_getElem? (i := 23) rfl)
theorem wl_576 : (Cond.selects RX4 yX4_sure yX4_sure) ∈ wsL_law := wr_wsL_law_r25 _ (List.mem_of_getElem? (i := 0) rfl)
theorem wl_577 : (Cond.code yX4_sure cX4_sure 5 (some .int)) ∈ wsL_law := wr_wsL_law_r25 _ (List.mem_of_getElem? (i := 1) rfl)
theorem wl_578 : (Cond.methodLink RX4 256 yX4_harmParts) ∈ wsL_law := wr_wsL_law_r25 _ (List.mem_of_getElem? (i := 2) rfl)
theorem wl_579 : (Cond.instanceMethod yX4_harmParts) ∈ wsL_law := wr_wsL_law_r25 _ (List.mem_of_getElem? (i := 3) rfl)
theorem wl_580 : (Cond.selects RX4 yX4_harmParts yX4_harmParts) ∈ wsL_law := wr_wsL_law_r25 _ (List.mem_of_getElem? (i := 4) rfl)
theorem wl_581 : (Cond.code yX4_harmParts cX4_harmParts 5 (some .long)) ∈ wsL_law := wr_wsL_law_r25 _ (List.mem_of_getElem? (i := 5) rfl)
theorem wl_582 : (Cond.methodLink RL 91 yX3_looking) ∈ wsL_law := wr_wsL_law_r25 _ (List.mem_of_getElem? (i := 6) rfl)
theorem wl_583 : (Cond.instanceMethod yX3_looking) ∈ wsL_law := wr_wsL_law_r25 _ (List.mem_of_getElem? (i := 7) rfl)
theorem wl_584 : (Cond.selects RX3 yX3_looking yX3_looking) ∈ wsL_law := wr_wsL_law_r25 _ (List.mem_of_getElem? (i := 8) rfl)
theorem wl_585 : (Cond.code yX3_looking cX3_looking 5 (some .long)) ∈ wsL_law := wr_wsL_law_r25 _ (List.mem_of_getElem? (i := 9) rfl)
theorem wl_586 : (Cond.constantLong RX3 246 (10)) ∈ wsL_law := wr_wsL_law_r25 _ (List.mem_of_getElem? (i := 10) rfl)
theorem wl_587 : (Cond.methodLink RX3 243 yX3_testWorth) ∈ wsL_law := wr_wsL_law_r25 _ (List.mem_of_getElem? (i := 11) rfl)
theorem wl_588 : (Cond.instanceMethod yX3_testWorth) ∈ wsL_law := wr_wsL_law_r25 _ (List.mem_of_getElem? (i := 12) rfl)
theorem wl_589 : (Cond.selects RX3 yX3_testWorth yX3_testWorth) ∈ wsL_law := wr_wsL_law_r25 _ (List.mem_of_getElem? (i := 13) rfl)
theorem wl_590 : (Cond.code yX3_testWorth cX3_testWorth 7 (some .long)) ∈ wsL_law := wr_wsL_law_r25 _ (List.mem_of_getElem? (i := 14) rfl)
theorem wl_591 : (Cond.instanceMethod yX1_bestSum) ∈ wsL_law := wr_wsL_law_r25 _ (List.mem_of_getElem? (i := 15) rfl)
theorem wl_592 : (Cond.selects RX1 yX1_bestSum yX1_bestSum) ∈ wsL_law := wr_wsL_law_r25 _ (List.mem_of_getElem? (i := 16) rfl)
theorem wl_593 : (Cond.code yX1_bestSum cX1_bestSum 6 (some .long)) ∈ wsL_law := wr_wsL_law_r25 _ (List.mem_of_getElem? (i := 17) rfl)
theorem wl_594 : (Cond.methodLink RX1 124 Lib.MathLoose.max_long.x) ∈ wsL_law := wr_wsL_law_r25 _ (List.mem_of_getElem? (i := 18) rfl)
theorem wl_595 : (Cond.static Lib.MathLoose.max_long.x) ∈ wsL_law := wr_wsL_law_r25 _ (List.mem_of_getElem? (i := 19) rfl)
theorem wl_596 : (Cond.code Lib.MathLoose.max_long.x Lib.MathLoose.max_long.code 4 (some .long)) ∈ wsL_law := wr_wsL_law_r25 _ (List.mem_of_getElem? (i := 20) rfl)
theorem wl_597 : (Cond.methodLink RL 94 yX4_looking) ∈ wsL_law := wr_wsL_law_r25 _ (List.mem_of_getElem? (i := 21) rfl)
theorem wl_598 : (Cond.instanceMethod yX4_looking) ∈ wsL_law := wr_wsL_law_r25 _ (List.mem_of_getElem? (i := 22) rfl)
theorem wl_599 : (Cond.selects RX4 yX4_looking yX4_looking) ∈ wsL_law := wr_wsL_law_r25 _ (List.mem_of_getElem? (i := 23) rfl)
theorem wl_600 : (Cond.code yX4_looking cX4_looking 5 (some .long)) ∈ wsL_law := wr_wsL_law_r26 _ (List.mem_of_getElem? (i := 0) rfl)
theorem wl_601 : (Cond.constantLong RX4 267 (10)) ∈ wsL_law := wr_wsL_law_r26 _ (List.mem_of_getElem? (i := 1) rfl)
theorem wl_602 : (Cond.methodLink RX4 272 yX4_lookParts) ∈ wsL_law := wr_wsL_law_r26 _ (List.mem_of_getElem? (i := 2) rfl)
theorem wl_603 : (Cond.instanceMethod yX4_lookParts) ∈ wsL_law := wr_wsL_law_r26 _ (List.mem_of_getElem? (i := 3) rfl)
theorem wl_604 : (Cond.selects RX4 yX4_lookParts yX4_lookParts) ∈ wsL_law := wr_wsL_law_r26 _ (List.mem_of_getElem? (i := 4) rfl)
theorem wl_605 : (Cond.code yX4_lookParts cX4_lookParts 5 (some .long)) ∈ wsL_law := wr_wsL_law_r26 _ (List.mem_of_getElem? (i := 5) rfl)
theorem wl_606 : (Cond.methodLink RX4 263 yX4_bestNet) ∈ wsL_law := wr_wsL_law_r26 _ (List.mem_of_getElem? (i := 6) rfl)
theorem wl_607 : (Cond.instanceMethod yX4_bestNet) ∈ wsL_law := wr_wsL_law_r26 _ (List.mem_of_getElem? (i := 7) rfl)
theorem wl_608 : (Cond.selects RX4 yX4_bestNet yX4_bestNet) ∈ wsL_law := wr_wsL_law_r26 _ (List.mem_of_getElem? (i := 8) rfl)
theorem wl_609 : (Cond.code yX4_bestNet cX4_bestNet 3 (some .long)) ∈ wsL_law := wr_wsL_law_r26 _ (List.mem_of_getElem? (i := 9) rfl)
theorem wl_610 : (Cond.methodLink RX4 269 yX4_bestBehind) ∈ wsL_law := wr_wsL_law_r26 _ (List.mem_of_getElem? (i := 10) rfl)
theorem wl_611 : (Cond.instanceMethod yX4_bestBehind) ∈ wsL_law := wr_wsL_law_r26 _ (List.mem_of_getElem? (i := 11) rfl)
theorem wl_612 : (Cond.selects RX4 yX4_bestBehind yX4_bestBehind) ∈ wsL_law := wr_wsL_law_r26 _ (List.mem_of_getElem? (i := 12) rfl)
theorem wl_613 : (Cond.code yX4_bestBehind cX4_bestBehind 6 (some .long)) ∈ wsL_law := wr_wsL_law_r26 _ (List.mem_of_getElem? (i := 13) rfl)
theorem wl_614 : (Cond.methodLink RX4 259 yX4_laysAnswer) ∈ wsL_law := wr_wsL_law_r26 _ (List.mem_of_getElem? (i := 14) rfl)
theorem wl_615 : (Cond.instanceMethod yX4_laysAnswer) ∈ wsL_law := wr_wsL_law_r26 _ (List.mem_of_getElem? (i := 15) rfl)
theorem wl_616 : (Cond.selects RX4 yX4_laysAnswer yX4_laysAnswer) ∈ wsL_law := wr_wsL_law_r26 _ (List.mem_of_getElem? (i := 16) rfl)
theorem wl_617 : (Cond.code yX4_laysAnswer cX4_laysAnswer 6 none) ∈ wsL_law := wr_wsL_law_r26 _ (List.mem_of_getElem? (i := 17) rfl)
theorem wl_618 : (Cond.methodLink RL 95 yX3_bestTest) ∈ wsL_law := wr_wsL_law_r26 _ (List.mem_of_getElem? (i := 18) rfl)
theorem wl_619 : (Cond.instanceMethod yX3_bestTest) ∈ wsL_law := wr_wsL_law_r26 _ (List.mem_of_getElem? (i := 19) rfl)
theorem wl_620 : (Cond.selects RX3 yX3_bestTest yX3_bestTest) ∈ wsL_law := wr_wsL_law_r26 _ (List.mem_of_getElem? (i := 20) rfl)
theorem wl_621 : (Cond.code yX3_bestTest cX3_bestTest 9 (some .int)) ∈ wsL_law := wr_wsL_law_r26 _ (List.mem_of_getElem? (i := 21) rfl)
theorem wl_622 : (Cond.methodLink RL 98 yX4_bestTest) ∈ wsL_law := wr_wsL_law_r26 _ (List.mem_of_getElem? (i := 22) rfl)
theorem wl_623 : (Cond.instanceMethod yX4_bestTest) ∈ wsL_law := wr_wsL_law_r26 _ (List.mem_of_getElem? (i := 23) rfl)
theorem wl_624 : (Cond.selects RX4 yX4_bestTest yX4_bestTest) ∈ wsL_law := wr_wsL_law_r27 _ (List.mem_of_getElem? (i := 0) rfl)
theorem wl_625 : (Cond.code yX4_bestTest cX4_bestTest 9 (some .int)) ∈ wsL_law := wr_wsL_law_r27 _ (List.mem_of_getElem? (i := 1) rfl)
theorem wl_626 : (Cond.methodLink RL 99 yX3_two) ∈ wsL_law := wr_wsL_law_r27 _ (List.mem_of_getElem? (i := 2) rfl)
theorem wl_627 : (Cond.instanceMethod yX3_two) ∈ wsL_law := wr_wsL_law_r27 _ (List.mem_of_getElem? (i := 3) rfl)
theorem wl_628 : (Cond.selects RX3 yX3_two yX3_two) ∈ wsL_law := wr_wsL_law_r27 _ (List.mem_of_getElem? (i := 4) rfl)
theorem wl_629 : (Cond.code yX3_two cX3_two 9 (some .int)) ∈ wsL_law := wr_wsL_law_r27 _ (List.mem_of_getElem? (i := 5) rfl)
theorem wl_630 : (Cond.methodLink RX3 248 yX3_pairWorth) ∈ wsL_law := wr_wsL_law_r27 _ (List.mem_of_getElem? (i := 6) rfl)
theorem wl_631 : (Cond.instanceMethod yX3_pairWorth) ∈ wsL_law := wr_wsL_law_r27 _ (List.mem_of_getElem? (i := 7) rfl)
theorem wl_632 : (Cond.selects RX3 yX3_pairWorth yX3_pairWorth) ∈ wsL_law := wr_wsL_law_r27 _ (List.mem_of_getElem? (i := 8) rfl)
theorem wl_633 : (Cond.code yX3_pairWorth cX3_pairWorth 8 (some .long)) ∈ wsL_law := wr_wsL_law_r27 _ (List.mem_of_getElem? (i := 9) rfl)
theorem wl_634 : (Cond.methodLink RL 102 yX4_two) ∈ wsL_law := wr_wsL_law_r27 _ (List.mem_of_getElem? (i := 10) rfl)
theorem wl_635 : (Cond.instanceMethod yX4_two) ∈ wsL_law := wr_wsL_law_r27 _ (List.mem_of_getElem? (i := 11) rfl)
theorem wl_636 : (Cond.selects RX4 yX4_two yX4_two) ∈ wsL_law := wr_wsL_law_r27 _ (List.mem_of_getElem? (i := 12) rfl)
theorem wl_637 : (Cond.code yX4_two cX4_two 4 (some .int)) ∈ wsL_law := wr_wsL_law_r27 _ (List.mem_of_getElem? (i := 13) rfl)
theorem wl_638 : (Cond.methodLink RX4 285 yX4_bestTwo) ∈ wsL_law := wr_wsL_law_r27 _ (List.mem_of_getElem? (i := 14) rfl)
theorem wl_639 : (Cond.instanceMethod yX4_bestTwo) ∈ wsL_law := wr_wsL_law_r27 _ (List.mem_of_getElem? (i := 15) rfl)
theorem wl_640 : (Cond.selects RX4 yX4_bestTwo yX4_bestTwo) ∈ wsL_law := wr_wsL_law_r27 _ (List.mem_of_getElem? (i := 16) rfl)
theorem wl_641 : (Cond.code yX4_bestTwo cX4_bestTwo 4 (some .int)) ∈ wsL_law := wr_wsL_law_r27 _ (List.mem_of_getElem? (i := 17) rfl)
theorem wl_642 : (Cond.methodLink RX4 281 yX4_twoParts) ∈ wsL_law := wr_wsL_law_r27 _ (List.mem_of_getElem? (i := 18) rfl)
theorem wl_643 : (Cond.instanceMethod yX4_twoParts) ∈ wsL_law := wr_wsL_law_r27 _ (List.mem_of_getElem? (i := 19) rfl)
theorem wl_644 : (Cond.selects RX4 yX4_twoParts yX4_twoParts) ∈ wsL_law := wr_wsL_law_r27 _ (List.mem_of_getElem? (i := 20) rfl)
theorem wl_645 : (Cond.code yX4_twoParts cX4_twoParts 7 (some .long)) ∈ wsL_law := wr_wsL_law_r27 _ (List.mem_of_getElem? (i := 21) rfl)
theorem wl_646 : (Cond.constantLong RX4 279 (100)) ∈ wsL_law := wr_wsL_law_r27 _ (List.mem_of_getElem? (i := 22) rfl)
theorem wl_647 : (Cond.methodLink RX4 276 yX4_laysParts) ∈ wsL_law := wr_wsL_law_r27 _ (List.mem_of_getElem? (i := 23) rfl)
theorem wl_648 : (Cond.instanceMethod yX4_laysParts) ∈ wsL_law := wr_wsL_law_r28 _ (List.mem_of_getElem? (i := 0) rfl)
theorem wl_649 : (Cond.selects RX4 yX4_laysParts yX4_laysParts) ∈ wsL_law := wr_wsL_law_r28 _ (List.mem_of_getElem? (i := 1) rfl)
theorem wl_650 : (Cond.code yX4_laysParts cX4_laysParts 4 none) ∈ wsL_law := wr_wsL_law_r28 _ (List.mem_of_getElem? (i := 2) rfl)
theorem wl_651 : (Cond.methodLink RL 103 yX3_twoWorth) ∈ wsL_law := wr_wsL_law_r28 _ (List.mem_of_getElem? (i := 3) rfl)
theorem wl_652 : (Cond.instanceMethod yX3_twoWorth) ∈ wsL_law := wr_wsL_law_r28 _ (List.mem_of_getElem? (i := 4) rfl)
theorem wl_653 : (Cond.selects RX3 yX3_twoWorth yX3_twoWorth) ∈ wsL_law := wr_wsL_law_r28 _ (List.mem_of_getElem? (i := 5) rfl)
theorem wl_654 : (Cond.code yX3_twoWorth cX3_twoWorth 7 (some .long)) ∈ wsL_law := wr_wsL_law_r28 _ (List.mem_of_getElem? (i := 6) rfl)
theorem wl_655 : (Cond.methodLink RX3 251 Lib.MathLoose.max_long.x) ∈ wsL_law := wr_wsL_law_r28 _ (List.mem_of_getElem? (i := 7) rfl)
theorem wl_656 : (Cond.constantLong RX3 254 (100)) ∈ wsL_law := wr_wsL_law_r28 _ (List.mem_of_getElem? (i := 8) rfl)
theorem wl_657 : (Cond.methodLink RL 106 yX4_twoWorth) ∈ wsL_law := wr_wsL_law_r28 _ (List.mem_of_getElem? (i := 9) rfl)
theorem wl_658 : (Cond.instanceMethod yX4_twoWorth) ∈ wsL_law := wr_wsL_law_r28 _ (List.mem_of_getElem? (i := 10) rfl)
theorem wl_659 : (Cond.selects RX4 yX4_twoWorth yX4_twoWorth) ∈ wsL_law := wr_wsL_law_r28 _ (List.mem_of_getElem? (i := 11) rfl)
theorem wl_660 : (Cond.code yX4_twoWorth cX4_twoWorth 5 (some .long)) ∈ wsL_law := wr_wsL_law_r28 _ (List.mem_of_getElem? (i := 12) rfl)
theorem wl_661 : (Cond.methodLink RX4 288 yX4_notPart) ∈ wsL_law := wr_wsL_law_r28 _ (List.mem_of_getElem? (i := 13) rfl)
theorem wl_662 : (Cond.instanceMethod yX4_notPart) ∈ wsL_law := wr_wsL_law_r28 _ (List.mem_of_getElem? (i := 14) rfl)
theorem wl_663 : (Cond.selects RX4 yX4_notPart yX4_notPart) ∈ wsL_law := wr_wsL_law_r28 _ (List.mem_of_getElem? (i := 15) rfl)
theorem wl_664 : (Cond.code yX4_notPart cX4_notPart 3 (some .int)) ∈ wsL_law := wr_wsL_law_r28 _ (List.mem_of_getElem? (i := 16) rfl)
theorem wl_665 : (Cond.methodLink RL 107 yX3_free) ∈ wsL_law := wr_wsL_law_r28 _ (List.mem_of_getElem? (i := 17) rfl)
theorem wl_666 : (Cond.instanceMethod yX3_free) ∈ wsL_law := wr_wsL_law_r28 _ (List.mem_of_getElem? (i := 18) rfl)
theorem wl_667 : (Cond.selects RX3 yX3_free yX3_free) ∈ wsL_law := wr_wsL_law_r28 _ (List.mem_of_getElem? (i := 19) rfl)
theorem wl_668 : (Cond.code yX3_free cX3_free 9 (some .int)) ∈ wsL_law := wr_wsL_law_r28 _ (List.mem_of_getElem? (i := 20) rfl)
theorem wl_669 : (Cond.methodLink RX3 256 yX3_firstWorth) ∈ wsL_law := wr_wsL_law_r28 _ (List.mem_of_getElem? (i := 21) rfl)
theorem wl_670 : (Cond.instanceMethod yX3_firstWorth) ∈ wsL_law := wr_wsL_law_r28 _ (List.mem_of_getElem? (i := 22) rfl)
theorem wl_671 : (Cond.selects RX3 yX3_firstWorth yX3_firstWorth) ∈ wsL_law := wr_wsL_law_r28 _ (List.mem_of_getElem? (i := 23) rfl)
theorem wl_672 : (Cond.code yX3_firstWorth cX3_firstWorth 9 (some .long)) ∈ wsL_law := wr_wsL_law_r29 _ (List.mem_of_getElem? (i := 0) rfl)
theorem wl_673 : (Cond.methodLink RL 110 yX4_free) ∈ wsL_law := wr_wsL_law_r29 _ (List.mem_of_getElem? (i := 1) rfl)
theorem wl_674 : (Cond.instanceMethod yX4_free) ∈ wsL_law := wr_wsL_law_r29 _ (List.mem_of_getElem? (i := 2) rfl)
theorem wl_675 : (Cond.selects RX4 yX4_free yX4_free) ∈ wsL_law := wr_wsL_law_r29 _ (List.mem_of_getElem? (i := 3) rfl)
theorem wl_676 : (Cond.code yX4_free cX4_free 3 (some .int)) ∈ wsL_law := wr_wsL_law_r29 _ (List.mem_of_getElem? (i := 4) rfl)
theorem wl_677 : (Cond.methodLink RX4 297 yX4_bestFree) ∈ wsL_law := wr_wsL_law_r29 _ (List.mem_of_getElem? (i := 5) rfl)
theorem wl_678 : (Cond.instanceMethod yX4_bestFree) ∈ wsL_law := wr_wsL_law_r29 _ (List.mem_of_getElem? (i := 6) rfl)
theorem wl_679 : (Cond.selects RX4 yX4_bestFree yX4_bestFree) ∈ wsL_law := wr_wsL_law_r29 _ (List.mem_of_getElem? (i := 7) rfl)
theorem wl_680 : (Cond.code yX4_bestFree cX4_bestFree 4 (some .int)) ∈ wsL_law := wr_wsL_law_r29 _ (List.mem_of_getElem? (i := 8) rfl)
theorem wl_681 : (Cond.methodLink RX4 294 yX4_freeParts) ∈ wsL_law := wr_wsL_law_r29 _ (List.mem_of_getElem? (i := 9) rfl)
theorem wl_682 : (Cond.instanceMethod yX4_freeParts) ∈ wsL_law := wr_wsL_law_r29 _ (List.mem_of_getElem? (i := 10) rfl)
theorem wl_683 : (Cond.selects RX4 yX4_freeParts yX4_freeParts) ∈ wsL_law := wr_wsL_law_r29 _ (List.mem_of_getElem? (i := 11) rfl)
theorem wl_684 : (Cond.code yX4_freeParts cX4_freeParts 11 (some .long)) ∈ wsL_law := wr_wsL_law_r29 _ (List.mem_of_getElem? (i := 12) rfl)
theorem wl_685 : (Cond.methodLink RX4 291 yX4_allParts) ∈ wsL_law := wr_wsL_law_r29 _ (List.mem_of_getElem? (i := 13) rfl)
theorem wl_686 : (Cond.instanceMethod yX4_allParts) ∈ wsL_law := wr_wsL_law_r29 _ (List.mem_of_getElem? (i := 14) rfl)
theorem wl_687 : (Cond.selects RX4 yX4_allParts yX4_allParts) ∈ wsL_law := wr_wsL_law_r29 _ (List.mem_of_getElem? (i := 15) rfl)
theorem wl_688 : (Cond.code yX4_allParts cX4_allParts 4 (some .long)) ∈ wsL_law := wr_wsL_law_r29 _ (List.mem_of_getElem? (i := 16) rfl)
theorem wl_689 : (Cond.methodLink RL 111 yX3_freeWorth) ∈ wsL_law := wr_wsL_law_r29 _ (List.mem_of_getElem? (i := 17) rfl)
theorem wl_690 : (Cond.instanceMethod yX3_freeWorth) ∈ wsL_law := wr_wsL_law_r29 _ (List.mem_of_getElem? (i := 18) rfl)
theorem wl_691 : (Cond.selects RX3 yX3_freeWorth yX3_freeWorth) ∈ wsL_law := wr_wsL_law_r29 _ (List.mem_of_getElem? (i := 19) rfl)
theorem wl_692 : (Cond.code yX3_freeWorth cX3_freeWorth 7 (some .long)) ∈ wsL_law := wr_wsL_law_r29 _ (List.mem_of_getElem? (i := 20) rfl)
theorem wl_693 : (Cond.methodLink RL 114 yX4_freeWorth) ∈ wsL_law := wr_wsL_law_r29 _ (List.mem_of_getElem? (i := 21) rfl)
theorem wl_694 : (Cond.instanceMethod yX4_freeWorth) ∈ wsL_law := wr_wsL_law_r29 _ (List.mem_of_getElem? (i := 22) rfl)
theorem wl_695 : (Cond.selects RX4 yX4_freeWorth yX4_freeWorth) ∈ wsL_law := wr_wsL_law_r29 _ (List.mem_of_getElem? (i := 23) rfl)
theorem wl_696 : (Cond.code yX4_freeWorth cX4_freeWorth 4 (some .long)) ∈ wsL_law := wr_wsL_law_r30 _ (List.mem_of_getElem? (i := 0) rfl)
theorem wl_697 : (Cond.methodLink RL 115 yX3_useless) ∈ wsL_law := wr_wsL_law_r30 _ (List.mem_of_getElem? (i := 1) rfl)
theorem wl_698 : (Cond.instanceMethod yX3_useless) ∈ wsL_law := wr_wsL_law_r30 _ (List.mem_of_getElem? (i := 2) rfl)
theorem wl_699 : (Cond.selects RX3 yX3_useless yX3_useless) ∈ wsL_law := wr_wsL_law_r30 _ (List.mem_of_getElem? (i := 3) rfl)
theorem wl_700 : (Cond.code yX3_useless cX3_useless 6 (some .int)) ∈ wsL_law := wr_wsL_law_r30 _ (List.mem_of_getElem? (i := 4) rfl)
theorem wl_701 : (Cond.methodLink RX3 259 yX3_staysBest) ∈ wsL_law := wr_wsL_law_r30 _ (List.mem_of_getElem? (i := 5) rfl)
theorem wl_702 : (Cond.instanceMethod yX3_staysBest) ∈ wsL_law := wr_wsL_law_r30 _ (List.mem_of_getElem? (i := 6) rfl)
theorem wl_703 : (Cond.selects RX3 yX3_staysBest yX3_staysBest) ∈ wsL_law := wr_wsL_law_r30 _ (List.mem_of_getElem? (i := 7) rfl)
theorem wl_704 : (Cond.code yX3_staysBest cX3_staysBest 5 (some .boolean)) ∈ wsL_law := wr_wsL_law_r30 _ (List.mem_of_getElem? (i := 8) rfl)
theorem wl_705 : (Cond.methodLink RL 118 yX4_useless) ∈ wsL_law := wr_wsL_law_r30 _ (List.mem_of_getElem? (i := 9) rfl)
theorem wl_706 : (Cond.instanceMethod yX4_useless) ∈ wsL_law := wr_wsL_law_r30 _ (List.mem_of_getElem? (i := 10) rfl)
theorem wl_707 : (Cond.selects RX4 yX4_useless yX4_useless) ∈ wsL_law := wr_wsL_law_r30 _ (List.mem_of_getElem? (i := 11) rfl)
theorem wl_708 : (Cond.code yX4_useless cX4_useless 8 (some .int)) ∈ wsL_law := wr_wsL_law_r30 _ (List.mem_of_getElem? (i := 12) rfl)
theorem wl_709 : (Cond.methodLink RL 119 yX3_person) ∈ wsL_law := wr_wsL_law_r30 _ (List.mem_of_getElem? (i := 13) rfl)
theorem wl_710 : (Cond.instanceMethod yX3_person) ∈ wsL_law := wr_wsL_law_r30 _ (List.mem_of_getElem? (i := 14) rfl)
theorem wl_711 : (Cond.selects RX3 yX3_person yX3_person) ∈ wsL_law := wr_wsL_law_r30 _ (List.mem_of_getElem? (i := 15) rfl)
theorem wl_712 : (Cond.code yX3_person cX3_person 2 (some .int)) ∈ wsL_law := wr_wsL_law_r30 _ (List.mem_of_getElem? (i := 16) rfl)
theorem wl_713 : (Cond.instanceMethod yX1_addPerson) ∈ wsL_law := wr_wsL_law_r30 _ (List.mem_of_getElem? (i := 17) rfl)
theorem wl_714 : (Cond.selects RX1 yX1_addPerson yX1_addPerson) ∈ wsL_law := wr_wsL_law_r30 _ (List.mem_of_getElem? (i := 18) rfl)
theorem wl_715 : (Cond.code yX1_addPerson cX1_addPerson 2 (some .boolean)) ∈ wsL_law := wr_wsL_law_r30 _ (List.mem_of_getElem? (i := 19) rfl)
theorem wl_716 : (Cond.methodLink RL 122 yX4_person) ∈ wsL_law := wr_wsL_law_r30 _ (List.mem_of_getElem? (i := 20) rfl)
theorem wl_717 : (Cond.instanceMethod yX4_person) ∈ wsL_law := wr_wsL_law_r30 _ (List.mem_of_getElem? (i := 21) rfl)
theorem wl_718 : (Cond.selects RX4 yX4_person yX4_person) ∈ wsL_law := wr_wsL_law_r30 _ (List.mem_of_getElem? (i := 22) rfl)
theorem wl_719 : (Cond.code yX4_person cX4_person 3 (some .int)) ∈ wsL_law := wr_wsL_law_r30 _ (List.mem_of_getElem? (i := 23) rfl)
theorem wl_720 : (Cond.methodLink RL 123 yX3_nobody) ∈ wsL_law := wr_wsL_law_r31 _ (List.mem_of_getElem? (i := 0) rfl)
theorem wl_721 : (Cond.instanceMethod yX3_nobody) ∈ wsL_law := wr_wsL_law_r31 _ (List.mem_of_getElem? (i := 1) rfl)
theorem wl_722 : (Cond.selects RX3 yX3_nobody yX3_nobody) ∈ wsL_law := wr_wsL_law_r31 _ (List.mem_of_getElem? (i := 2) rfl)
theorem wl_723 : (Cond.code yX3_nobody cX3_nobody 2 (some .int)) ∈ wsL_law := wr_wsL_law_r31 _ (List.mem_of_getElem? (i := 3) rfl)
theorem wl_724 : (Cond.methodLink RL 126 yX4_nobody) ∈ wsL_law := wr_wsL_law_r31 _ (List.mem_of_getElem? (i := 4) rfl)
theorem wl_725 : (Cond.instanceMethod yX4_nobody) ∈ wsL_law := wr_wsL_law_r31 _ (List.mem_of_getElem? (i := 5) rfl)
theorem wl_726 : (Cond.selects RX4 yX4_nobody yX4_nobody) ∈ wsL_law := wr_wsL_law_r31 _ (List.mem_of_getElem? (i := 6) rfl)
theorem wl_727 : (Cond.code yX4_nobody cX4_nobody 2 (some .int)) ∈ wsL_law := wr_wsL_law_r31 _ (List.mem_of_getElem? (i := 7) rfl)
theorem wl_728 : (Cond.methodLink RL 127 yX3_said) ∈ wsL_law := wr_wsL_law_r31 _ (List.mem_of_getElem? (i := 8) rfl)
theorem wl_729 : (Cond.instanceMethod yX3_said) ∈ wsL_law := wr_wsL_law_r31 _ (List.mem_of_getElem? (i := 9) rfl)
theorem wl_730 : (Cond.selects RX3 yX3_said yX3_said) ∈ wsL_law := wr_wsL_law_r31 _ (List.mem_of_getElem? (i := 10) rfl)
theorem wl_731 : (Cond.code yX3_said cX3_said 8 (some .long)) ∈ wsL_law := wr_wsL_law_r31 _ (List.mem_of_getElem? (i := 11) rfl)
theorem wl_732 : (Cond.methodLink RX3 275 yX3_hear) ∈ wsL_law := wr_wsL_law_r31 _ (List.mem_of_getElem? (i := 12) rfl)
theorem wl_733 : (Cond.instanceMethod yX3_hear) ∈ wsL_law := wr_wsL_law_r31 _ (List.mem_of_getElem? (i := 13) rfl)
theorem wl_734 : (Cond.selects RX3 yX3_hear yX3_hear) ∈ wsL_law := wr_wsL_law_r31 _ (List.mem_of_getElem? (i := 14) rfl)
theorem wl_735 : (Cond.code yX3_hear cX3_hear 5 none) ∈ wsL_law := wr_wsL_law_r31 _ (List.mem_of_getElem? (i := 15) rfl)
theorem wl_736 : (Cond.methodLink RX3 284 yX3_personTenths) ∈ wsL_law := wr_wsL_law_r31 _ (List.mem_of_getElem? (i := 16) rfl)
theorem wl_737 : (Cond.instanceMethod yX3_personTenths) ∈ wsL_law := wr_wsL_law_r31 _ (List.mem_of_getElem? (i := 17) rfl)
theorem wl_738 : (Cond.selects RX3 yX3_personTenths yX3_personTenths) ∈ wsL_law := wr_wsL_law_r31 _ (List.mem_of_getElem? (i := 18) rfl)
theorem wl_739 : (Cond.code yX3_personTenths cX3_personTenths 4 (some .int)) ∈ wsL_law := wr_wsL_law_r31 _ (List.mem_of_getElem? (i := 19) rfl)
theorem wl_740 : (Cond.methodLink RX3 290 yX3_heldTenths) ∈ wsL_law := wr_wsL_law_r31 _ (List.mem_of_getElem? (i := 20) rfl)
theorem wl_741 : (Cond.instanceMethod yX2_times) ∈ wsL_law := wr_wsL_law_r31 _ (List.mem_of_getElem? (i := 21) rfl)
theorem wl_742 : (Cond.selects RX2 yX2_times yX2_times) ∈ wsL_law := wr_wsL_law_r31 _ (List.mem_of_getElem? (i := 22) rfl)
theorem wl_743 : (Cond.code yX2_times cX2_times 3 none) ∈ wsL_law := wr_wsL_law_r31 _ (List.mem_of_getElem? (i := 23) rfl)
theorem wl_744 : (Cond.methodLink RL 130 yX4_said) ∈ wsL_law := wr_wsL_law_r32 _ (List.mem_of_getElem? (i := 0) rfl)
theorem wl_745 : (Cond.instanceMethod yX4_said) ∈ wsL_law := wr_wsL_law_r32 _ (List.mem_of_getElem? (i := 1) rfl)
theorem wl_746 : (Cond.selects RX4 yX4_said yX4_said) ∈ wsL_law := wr_wsL_law_r32 _ (List.mem_of_getElem? (i := 2) rfl)
theorem wl_747 : (Cond.code yX4_said cX4_said 9 (some .long)) ∈ wsL_law := wr_wsL_law_r32 _ (List.mem_of_getElem? (i := 3) rfl)
theorem wl_748 : (Cond.methodLink RX4 300 yX4_personOff) ∈ wsL_law := wr_wsL_law_r32 _ (List.mem_of_getElem? (i := 4) rfl)
theorem wl_749 : (Cond.instanceMethod yX4_personOff) ∈ wsL_law := wr_wsL_law_r32 _ (List.mem_of_getElem? (i := 5) rfl)
theorem wl_750 : (Cond.selects RX4 yX4_personOff yX4_personOff) ∈ wsL_law := wr_wsL_law_r32 _ (List.mem_of_getElem? (i := 6) rfl)
theorem wl_751 : (Cond.code yX4_personOff cX4_personOff 4 (some .int)) ∈ wsL_law := wr_wsL_law_r32 _ (List.mem_of_getElem? (i := 7) rfl)
theorem wl_752 : (Cond.methodLink RL 131 yX3_ask) ∈ wsL_law := wr_wsL_law_r32 _ (List.mem_of_getElem? (i := 8) rfl)
theorem wl_753 : (Cond.instanceMethod yX3_ask) ∈ wsL_law := wr_wsL_law_r32 _ (List.mem_of_getElem? (i := 9) rfl)
theorem wl_754 : (Cond.selects RX3 yX3_ask yX3_ask) ∈ wsL_law := wr_wsL_law_r32 _ (List.mem_of_getElem? (i := 10) rfl)
theorem wl_755 : (Cond.code yX3_ask cX3_ask 8 (some .int)) ∈ wsL_law := wr_wsL_law_r32 _ (List.mem_of_getElem? (i := 11) rfl)
theorem wl_756 : (Cond.constantLong RX3 279 (-1)) ∈ wsL_law := wr_wsL_law_r32 _ (List.mem_of_getElem? (i := 12) rfl)
theorem wl_757 : (Cond.methodLink RX3 281 yX3_toldRightly) ∈ wsL_law := wr_wsL_law_r32 _ (List.mem_of_getElem? (i := 13) rfl)
theorem wl_758 : (Cond.instanceMethod yX3_toldRightly) ∈ wsL_law := wr_wsL_law_r32 _ (List.mem_of_getElem? (i := 14) rfl)
theorem wl_759 : (Cond.selects RX3 yX3_toldRightly yX3_toldRightly) ∈ wsL_law := wr_wsL_law_r32 _ (List.mem_of_getElem? (i := 15) rfl)
theorem wl_760 : (Cond.code yX3_toldRightly cX3_toldRightly 4 (some .long)) ∈ wsL_law := wr_wsL_law_r32 _ (List.mem_of_getElem? (i := 16) rfl)
theorem wl_761 : (Cond.methodLink RL 134 yX4_ask) ∈ wsL_law := wr_wsL_law_r32 _ (List.mem_of_getElem? (i := 17) rfl)
theorem wl_762 : (Cond.instanceMethod yX4_ask) ∈ wsL_law := wr_wsL_law_r32 _ (List.mem_of_getElem? (i := 18) rfl)
theorem wl_763 : (Cond.selects RX4 yX4_ask yX4_ask) ∈ wsL_law := wr_wsL_law_r32 _ (List.mem_of_getElem? (i := 19) rfl)
theorem wl_764 : (Cond.code yX4_ask cX4_ask 3 (some .int)) ∈ wsL_law := wr_wsL_law_r32 _ (List.mem_of_getElem? (i := 20) rfl)
theorem wl_765 : (Cond.methodLink RX4 303 yX4_rightOf) ∈ wsL_law := wr_wsL_law_r32 _ (List.mem_of_getElem? (i := 21) rfl)
theorem wl_766 : (Cond.instanceMethod yX4_rightOf) ∈ wsL_law := wr_wsL_law_r32 _ (List.mem_of_getElem? (i := 22) rfl)
theorem wl_767 : (Cond.selects RX4 yX4_rightOf yX4_rightOf) ∈ wsL_law := wr_wsL_law_r32 _ (List.mem_of_getElem? (i := 23) rfl)
theorem wl_768 : (Cond.code yX4_rightOf cX4_rightOf 5 (some .long)) ∈ wsL_law := wr_wsL_law_r33 _ (List.mem_of_getElem? (i := 0) rfl)
theorem wl_769 : (Cond.methodLink RL 135 yX3_keep) ∈ wsL_law := wr_wsL_law_r33 _ (List.mem_of_getElem? (i := 1) rfl)
theorem wl_770 : (Cond.instanceMethod yX3_keep) ∈ wsL_law := wr_wsL_law_r33 _ (List.mem_of_getElem? (i := 2) rfl)
theorem wl_771 : (Cond.selects RX3 yX3_keep yX3_keep) ∈ wsL_law := wr_wsL_law_r33 _ (List.mem_of_getElem? (i := 3) rfl)
theorem wl_772 : (Cond.code yX3_keep cX3_keep 15 (some .int)) ∈ wsL_law := wr_wsL_law_r33 _ (List.mem_of_getElem? (i := 4) rfl)
theorem wl_773 : (Cond.methodLink RL 139 yX4_keep) ∈ wsL_law := wr_wsL_law_r33 _ (List.mem_of_getElem? (i := 5) rfl)
theorem wl_774 : (Cond.instanceMethod yX4_keep) ∈ wsL_law := wr_wsL_law_r33 _ (List.mem_of_getElem? (i := 6) rfl)
theorem wl_775 : (Cond.selects RX4 yX4_keep yX4_keep) ∈ wsL_law := wr_wsL_law_r33 _ (List.mem_of_getElem? (i := 7) rfl)
theorem wl_776 : (Cond.code yX4_keep cX4_keep 15 (some .int)) ∈ wsL_law := wr_wsL_law_r33 _ (List.mem_of_getElem? (i := 8) rfl)
theorem wl_777 : (Cond.methodLink RX4 306 yX4_laysWeights) ∈ wsL_law := wr_wsL_law_r33 _ (List.mem_of_getElem? (i := 9) rfl)
theorem wl_778 : (Cond.instanceMethod yX4_laysWeights) ∈ wsL_law := wr_wsL_law_r33 _ (List.mem_of_getElem? (i := 10) rfl)
theorem wl_779 : (Cond.selects RX4 yX4_laysWeights yX4_laysWeights) ∈ wsL_law := wr_wsL_law_r33 _ (List.mem_of_getElem? (i := 11) rfl)
theorem wl_780 : (Cond.code yX4_laysWeights cX4_laysWeights 5 none) ∈ wsL_law := wr_wsL_law_r33 _ (List.mem_of_getElem? (i := 12) rfl)
theorem wl_781 : (Cond.methodLink RL 140 yX3_seldom) ∈ wsL_law := wr_wsL_law_r33 _ (List.mem_of_getElem? (i := 13) rfl)
theorem wl_782 : (Cond.instanceMethod yX3_seldom) ∈ wsL_law := wr_wsL_law_r33 _ (List.mem_of_getElem? (i := 14) rfl)
theorem wl_783 : (Cond.selects RX3 yX3_seldom yX3_seldom) ∈ wsL_law := wr_wsL_law_r33 _ (List.mem_of_getElem? (i := 15) rfl)
theorem wl_784 : (Cond.code yX3_seldom cX3_seldom 13 (some .int)) ∈ wsL_law := wr_wsL_law_r33 _ (List.mem_of_getElem? (i := 16) rfl)
theorem wl_785 : (Cond.methodLink RL 143 yX4_seldom) ∈ wsL_law := wr_wsL_law_r33 _ (List.mem_of_getElem? (i := 17) rfl)
theorem wl_786 : (Cond.instanceMethod yX4_seldom) ∈ wsL_law := wr_wsL_law_r33 _ (List.mem_of_getElem? (i := 18) rfl)
theorem wl_787 : (Cond.selects RX4 yX4_seldom yX4_seldom) ∈ wsL_law := wr_wsL_law_r33 _ (List.mem_of_getElem? (i := 19) rfl)
theorem wl_788 : (Cond.code yX4_seldom cX4_seldom 6 (some .int)) ∈ wsL_law := wr_wsL_law_r33 _ (List.mem_of_getElem? (i := 20) rfl)
theorem wl_789 : (Cond.methodLink RL 144 yX3_join) ∈ wsL_law := wr_wsL_law_r33 _ (List.mem_of_getElem? (i := 21) rfl)
theorem wl_790 : (Cond.instanceMethod yX3_join) ∈ wsL_law := wr_wsL_law_r33 _ (List.mem_of_getElem? (i := 22) rfl)
theorem wl_791 : (Cond.selects RX3 yX3_join yX3_join) ∈ wsL_law := wr_wsL_law_r33 _ (List.mem_of_getElem? (i := 23) rfl)
theorem wl_792 : (Cond.code yX3_join cX3_join 15 (some .long)) ∈ wsL_law := wr_wsL_law_r34 _ (List.mem_of_getElem? (i := 0) rfl)
theorem wl_793 : (Cond.instanceMethod yX2_worseOf) ∈ wsL_law := wr_wsL_law_r34 _ (List.mem_of_getElem? (i := 1) rfl)
theorem wl_794 : (Cond.selects RX2 yX2_worseOf yX2_worseOf) ∈ wsL_law := wr_wsL_law_r34 _ (List.mem_of_getElem? (i := 2) rfl)
theorem wl_795 : (Cond.code yX2_worseOf cX2_worseOf 4 none) ∈ wsL_law := wr_wsL_law_r34 _ (List.mem_of_getElem? (i := 3) rfl)
theorem wl_796 : (Cond.methodLink RL 148 yX4_join) ∈ wsL_law := wr_wsL_law_r34 _ (List.mem_of_getElem? (i := 4) rfl)
theorem wl_797 : (Cond.instanceMethod yX4_join) ∈ wsL_law := wr_wsL_law_r34 _ (List.mem_of_getElem? (i := 5) rfl)
theorem wl_798 : (Cond.selects RX4 yX4_join yX4_join) ∈ wsL_law := wr_wsL_law_r34 _ (List.mem_of_getElem? (i := 6) rfl)
theorem wl_799 : (Cond.code yX4_join cX4_join 16 (some .long)) ∈ wsL_law := wr_wsL_law_r34 _ (List.mem_of_getElem? (i := 7) rfl)
theorem wl_800 : (Cond.methodLink RL 149 yX3_larder) ∈ wsL_law := wr_wsL_law_r34 _ (List.mem_of_getElem? (i := 8) rfl)
theorem wl_801 : (Cond.instanceMethod yX3_larder) ∈ wsL_law := wr_wsL_law_r34 _ (List.mem_of_getElem? (i := 9) rfl)
theorem wl_802 : (Cond.selects RX3 yX3_larder yX3_larder) ∈ wsL_law := wr_wsL_law_r34 _ (List.mem_of_getElem? (i := 10) rfl)
theorem wl_803 : (Cond.code yX3_larder cX3_larder 5 (some .int)) ∈ wsL_law := wr_wsL_law_r34 _ (List.mem_of_getElem? (i := 11) rfl)
theorem wl_804 : (Cond.methodLink RX3 297 yX3_larderCosts) ∈ wsL_law := wr_wsL_law_r34 _ (List.mem_of_getElem? (i := 12) rfl)
theorem wl_805 : (Cond.instanceMethod yX3_larderCosts) ∈ wsL_law := wr_wsL_law_r34 _ (List.mem_of_getElem? (i := 13) rfl)
theorem wl_806 : (Cond.selects RX3 yX3_larderCosts yX3_larderCosts) ∈ wsL_law := wr_wsL_law_r34 _ (List.mem_of_getElem? (i := 14) rfl)
theorem wl_807 : (Cond.code yX3_larderCosts cX3_larderCosts 12 (some .int)) ∈ wsL_law := wr_wsL_law_r34 _ (List.mem_of_getElem? (i := 15) rfl)
theorem wl_808 : (Cond.methodLink RL 153 yX4_larder) ∈ wsL_law := wr_wsL_law_r34 _ (List.mem_of_getElem? (i := 16) rfl)
theorem wl_809 : (Cond.instanceMethod yX4_larder) ∈ wsL_law := wr_wsL_law_r34 _ (List.mem_of_getElem? (i := 17) rfl)
theorem wl_810 : (Cond.selects RX4 yX4_larder yX4_larder) ∈ wsL_law := wr_wsL_law_r34 _ (List.mem_of_getElem? (i := 18) rfl)
theorem wl_811 : (Cond.code yX4_larder cX4_larder 6 (some .int)) ∈ wsL_law := wr_wsL_law_r34 _ (List.mem_of_getElem? (i := 19) rfl)
theorem wl_812 : (Cond.fieldLink RX4 309 "StillGoodModel" "rowMany" "I") ∈ wsL_law := wr_wsL_law_r34 _ (List.mem_of_getElem? (i := 20) rfl)
theorem wl_813 : (Cond.methodLink RX4 312 yX4_larderBy) ∈ wsL_law := wr_wsL_law_r34 _ (List.mem_of_getElem? (i := 21) rfl)
theorem wl_814 : (Cond.instanceMethod yX4_larderBy) ∈ wsL_law := wr_wsL_law_r34 _ (List.mem_of_getElem? (i := 22) rfl)
theorem wl_815 : (Cond.selects RX4 yX4_larderBy yX4_larderBy) ∈ wsL_law := wr_wsL_law_r34 _ (List.mem_of_getElem? (i := 23) rfl)
theorem wl_816 : (Cond.code yX4_larderBy cX4_larderBy 10 (some .int)) ∈ wsL_law := wr_wsL_law_r35 _ (List.mem_of_getElem? (i := 0) rfl)
theorem wl_817 : (Cond.methodLink RL 154 yX3_buy) ∈ wsL_law := wr_wsL_law_r35 _ (List.mem_of_getElem? (i := 1) rfl)
theorem wl_818 : (Cond.instanceMethod yX3_buy) ∈ wsL_law := wr_wsL_law_r35 _ (List.mem_of_getElem? (i := 2) rfl)
theorem wl_819 : (Cond.selects RX3 yX3_buy yX3_buy) ∈ wsL_law := wr_wsL_law_r35 _ (List.mem_of_getElem? (i := 3) rfl)
theorem wl_820 : (Cond.code yX3_buy cX3_buy 8 (some .int)) ∈ wsL_law := wr_wsL_law_r35 _ (List.mem_of_getElem? (i := 4) rfl)
theorem wl_821 : (Cond.methodLink RL 157 yX4_buy) ∈ wsL_law := wr_wsL_law_r35 _ (List.mem_of_getElem? (i := 5) rfl)
theorem wl_822 : (Cond.instanceMethod yX4_buy) ∈ wsL_law := wr_wsL_law_r35 _ (List.mem_of_getElem? (i := 6) rfl)
theorem wl_823 : (Cond.selects RX4 yX4_buy yX4_buy) ∈ wsL_law := wr_wsL_law_r35 _ (List.mem_of_getElem? (i := 7) rfl)
theorem wl_824 : (Cond.code yX4_buy cX4_buy 7 (some .int)) ∈ wsL_law := wr_wsL_law_r35 _ (List.mem_of_getElem? (i := 8) rfl)
theorem wl_825 : (Cond.methodLink RL 158 yX3_rule) ∈ wsL_law := wr_wsL_law_r35 _ (List.mem_of_getElem? (i := 9) rfl)
theorem wl_826 : (Cond.instanceMethod yX3_rule) ∈ wsL_law := wr_wsL_law_r35 _ (List.mem_of_getElem? (i := 10) rfl)
theorem wl_827 : (Cond.selects RX3 yX3_rule yX3_rule) ∈ wsL_law := wr_wsL_law_r35 _ (List.mem_of_getElem? (i := 11) rfl)
theorem wl_828 : (Cond.code yX3_rule cX3_rule 7 (some .int)) ∈ wsL_law := wr_wsL_law_r35 _ (List.mem_of_getElem? (i := 12) rfl)
theorem wl_829 : (Cond.methodLink RX3 304 yX3_refuseBig) ∈ wsL_law := wr_wsL_law_r35 _ (List.mem_of_getElem? (i := 13) rfl)
theorem wl_830 : (Cond.instanceMethod yX3_refuseBig) ∈ wsL_law := wr_wsL_law_r35 _ (List.mem_of_getElem? (i := 14) rfl)
theorem wl_831 : (Cond.selects RX3 yX3_refuseBig yX3_refuseBig) ∈ wsL_law := wr_wsL_law_r35 _ (List.mem_of_getElem? (i := 15) rfl)
theorem wl_832 : (Cond.code yX3_refuseBig cX3_refuseBig 2 (some .int)) ∈ wsL_law := wr_wsL_law_r35 _ (List.mem_of_getElem? (i := 16) rfl)
theorem wl_833 : (Cond.constant RX3 346 (1000000000)) ∈ wsL_law := wr_wsL_law_r35 _ (List.mem_of_getElem? (i := 17) rfl)
theorem wl_834 : (Cond.methodLink RX3 307 yX3_useByRule) ∈ wsL_law := wr_wsL_law_r35 _ (List.mem_of_getElem? (i := 18) rfl)
theorem wl_835 : (Cond.instanceMethod yX3_useByRule) ∈ wsL_law := wr_wsL_law_r35 _ (List.mem_of_getElem? (i := 19) rfl)
theorem wl_836 : (Cond.selects RX3 yX3_useByRule yX3_useByRule) ∈ wsL_law := wr_wsL_law_r35 _ (List.mem_of_getElem? (i := 20) rfl)
theorem wl_837 : (Cond.code yX3_useByRule cX3_useByRule 4 (some .int)) ∈ wsL_law := wr_wsL_law_r35 _ (List.mem_of_getElem? (i := 21) rfl)
theorem wl_838 : (Cond.methodLink RX3 317 yX3_firstHarmless) ∈ wsL_law := wr_wsL_law_r35 _ (List.mem_of_getElem? (i := 22) rfl)
theorem wl_839 : (Cond.static yX3_firstHarmless) ∈ wsL_law := wr_wsL_law_r35 _ (List.mem_of_getElem? (i := 23) rfl)
theorem wl_840 : (Cond.code yX3_firstHarmless cX3_firstHarmless 2 (some .int)) ∈ wsL_law := wr_wsL_law_r36 _ (List.mem_of_getElem? (i := 0) rfl)
theorem wl_841 : (Cond.methodLink RX3 311 yX3_trueNet) ∈ wsL_law := wr_wsL_law_r36 _ (List.mem_of_getElem? (i := 1) rfl)
theorem wl_842 : (Cond.instanceMethod yX3_trueNet) ∈ wsL_law := wr_wsL_law_r36 _ (List.mem_of_getElem? (i := 2) rfl)
theorem wl_843 : (Cond.selects RX3 yX3_trueNet yX3_trueNet) ∈ wsL_law := wr_wsL_law_r36 _ (List.mem_of_getElem? (i := 3) rfl)
theorem wl_844 : (Cond.code yX3_trueNet cX3_trueNet 4 (some .int)) ∈ wsL_law := wr_wsL_law_r36 _ (List.mem_of_getElem? (i := 4) rfl)
theorem wl_845 : (Cond.methodLink RL 161 yX4_rule) ∈ wsL_law := wr_wsL_law_r36 _ (List.mem_of_getElem? (i := 5) rfl)
theorem wl_846 : (Cond.instanceMethod yX4_rule) ∈ wsL_law := wr_wsL_law_r36 _ (List.mem_of_getElem? (i := 6) rfl)
theorem wl_847 : (Cond.selects RX4 yX4_rule yX4_rule) ∈ wsL_law := wr_wsL_law_r36 _ (List.mem_of_getElem? (i := 7) rfl)
theorem wl_848 : (Cond.code yX4_rule cX4_rule 6 (some .int)) ∈ wsL_law := wr_wsL_law_r36 _ (List.mem_of_getElem? (i := 8) rfl)
theorem wl_849 : (Cond.methodLink RX4 319 yX4_lower) ∈ wsL_law := wr_wsL_law_r36 _ (List.mem_of_getElem? (i := 9) rfl)
theorem wl_850 : (Cond.instanceMethod yX4_lower) ∈ wsL_law := wr_wsL_law_r36 _ (List.mem_of_getElem? (i := 10) rfl)
theorem wl_851 : (Cond.selects RX4 yX4_lower yX4_lower) ∈ wsL_law := wr_wsL_law_r36 _ (List.mem_of_getElem? (i := 11) rfl)
theorem wl_852 : (Cond.code yX4_lower cX4_lower 2 (some .int)) ∈ wsL_law := wr_wsL_law_r36 _ (List.mem_of_getElem? (i := 12) rfl)
theorem wl_853 : (Cond.constant RX4 72 (1000000000)) ∈ wsL_law := wr_wsL_law_r36 _ (List.mem_of_getElem? (i := 13) rfl)
theorem wl_854 : (Cond.methodLink RX4 316 yX4_useBy) ∈ wsL_law := wr_wsL_law_r36 _ (List.mem_of_getElem? (i := 14) rfl)
theorem wl_855 : (Cond.instanceMethod yX4_useBy) ∈ wsL_law := wr_wsL_law_r36 _ (List.mem_of_getElem? (i := 15) rfl)
theorem wl_856 : (Cond.selects RX4 yX4_useBy yX4_useBy) ∈ wsL_law := wr_wsL_law_r36 _ (List.mem_of_getElem? (i := 16) rfl)
theorem wl_857 : (Cond.code yX4_useBy cX4_useBy 4 (some .int)) ∈ wsL_law := wr_wsL_law_r36 _ (List.mem_of_getElem? (i := 17) rfl)
theorem wl_858 : (Cond.methodLink RX4 322 yX4_netByRule) ∈ wsL_law := wr_wsL_law_r36 _ (List.mem_of_getElem? (i := 18) rfl)
theorem wl_859 : (Cond.instanceMethod yX4_netByRule) ∈ wsL_law := wr_wsL_law_r36 _ (List.mem_of_getElem? (i := 19) rfl)
theorem wl_860 : (Cond.selects RX4 yX4_netByRule yX4_netByRule) ∈ wsL_law := wr_wsL_law_r36 _ (List.mem_of_getElem? (i := 20) rfl)
theorem wl_861 : (Cond.code yX4_netByRule cX4_netByRule 4 (some .int)) ∈ wsL_law := wr_wsL_law_r36 _ (List.mem_of_getElem? (i := 21) rfl)
theorem wl_862 : (Cond.methodLink RL 162 yX3_bestRule) ∈ wsL_law := wr_wsL_law_r36 _ (List.mem_of_getElem? (i := 22) rfl)
theorem wl_863 : (Cond.instanceMethod yX3_bestRule) ∈ wsL_law := wr_wsL_law_r36 _ (List.mem_of_getElem? (i := 23) rfl)
theorem wl_864 : (Cond.selects RX3 yX3_bestRule yX3_bestRule) ∈ wsL_law := wr_wsL_law_r37 _ (List.mem_of_getElem? (i := 0) rfl)
theorem wl_865 : (Cond.code yX3_bestRule cX3_bestRule 8 (some .int)) ∈ wsL_law := wr_wsL_law_r37 _ (List.mem_of_getElem? (i := 1) rfl)
theorem wl_866 : (Cond.methodLink RL 165 yX4_bestRule) ∈ wsL_law := wr_wsL_law_r37 _ (List.mem_of_getElem? (i := 2) rfl)
theorem wl_867 : (Cond.instanceMethod yX4_bestRule) ∈ wsL_law := wr_wsL_law_r37 _ (List.mem_of_getElem? (i := 3) rfl)
theorem wl_868 : (Cond.selects RX4 yX4_bestRule yX4_bestRule) ∈ wsL_law := wr_wsL_law_r37 _ (List.mem_of_getElem? (i := 4) rfl)
theorem wl_869 : (Cond.code yX4_bestRule cX4_bestRule 4 (some .int)) ∈ wsL_law := wr_wsL_law_r37 _ (List.mem_of_getElem? (i := 5) rfl)
theorem wl_870 : (Cond.methodLink RX4 325 yX4_netOfAll) ∈ wsL_law := wr_wsL_law_r37 _ (List.mem_of_getElem? (i := 6) rfl)
theorem wl_871 : (Cond.instanceMethod yX4_netOfAll) ∈ wsL_law := wr_wsL_law_r37 _ (List.mem_of_getElem? (i := 7) rfl)
theorem wl_872 : (Cond.selects RX4 yX4_netOfAll yX4_netOfAll) ∈ wsL_law := wr_wsL_law_r37 _ (List.mem_of_getElem? (i := 8) rfl)
theorem wl_873 : (Cond.code yX4_netOfAll cX4_netOfAll 5 (some .int)) ∈ wsL_law := wr_wsL_law_r37 _ (List.mem_of_getElem? (i := 9) rfl)
theorem wl_874 : (Cond.methodLink RL 166 yX3_ill) ∈ wsL_law := wr_wsL_law_r37 _ (List.mem_of_getElem? (i := 10) rfl)
theorem wl_875 : (Cond.instanceMethod yX3_ill) ∈ wsL_law := wr_wsL_law_r37 _ (List.mem_of_getElem? (i := 11) rfl)
theorem wl_876 : (Cond.selects RX3 yX3_ill yX3_ill) ∈ wsL_law := wr_wsL_law_r37 _ (List.mem_of_getElem? (i := 12) rfl)
theorem wl_877 : (Cond.code yX3_ill cX3_ill 6 (some .int)) ∈ wsL_law := wr_wsL_law_r37 _ (List.mem_of_getElem? (i := 13) rfl)
theorem wl_878 : (Cond.methodLink RX3 323 yX3_isRowOfPairs) ∈ wsL_law := wr_wsL_law_r37 _ (List.mem_of_getElem? (i := 14) rfl)
theorem wl_879 : (Cond.instanceMethod yX3_isRowOfPairs) ∈ wsL_law := wr_wsL_law_r37 _ (List.mem_of_getElem? (i := 15) rfl)
theorem wl_880 : (Cond.selects RX3 yX3_isRowOfPairs yX3_isRowOfPairs) ∈ wsL_law := wr_wsL_law_r37 _ (List.mem_of_getElem? (i := 16) rfl)
theorem wl_881 : (Cond.code yX3_isRowOfPairs cX3_isRowOfPairs 2 (some .boolean)) ∈ wsL_law := wr_wsL_law_r37 _ (List.mem_of_getElem? (i := 17) rfl)
theorem wl_882 : (Cond.methodLink RX3 327 yX3_kindsThatFit) ∈ wsL_law := wr_wsL_law_r37 _ (List.mem_of_getElem? (i := 18) rfl)
theorem wl_883 : (Cond.instanceMethod yX3_kindsThatFit) ∈ wsL_law := wr_wsL_law_r37 _ (List.mem_of_getElem? (i := 19) rfl)
theorem wl_884 : (Cond.selects RX3 yX3_kindsThatFit yX3_kindsThatFit) ∈ wsL_law := wr_wsL_law_r37 _ (List.mem_of_getElem? (i := 20) rfl)
theorem wl_885 : (Cond.code yX3_kindsThatFit cX3_kindsThatFit 7 (some .int)) ∈ wsL_law := wr_wsL_law_r37 _ (List.mem_of_getElem? (i := 21) rfl)
theorem wl_886 : (Cond.methodLink RL 169 yX4_ill) ∈ wsL_law := wr_wsL_law_r37 _ (List.mem_of_getElem? (i := 22) rfl)
theorem wl_887 : (Cond.instanceMethod yX4_ill) ∈ wsL_law := wr_wsL_law_r37 _ (List.mem_of_getElem? (i := 23) rfl)
theorem wl_888 : (Cond.selects RX4 yX4_ill yX4_ill) ∈ wsL_law := wr_wsL_law_r38 _ (List.mem_of_getElem? (i := 0) rfl)
theorem wl_889 : (Cond.code yX4_ill cX4_ill 7 (some .int)) ∈ wsL_law := wr_wsL_law_r38 _ (List.mem_of_getElem? (i := 1) rfl)
theorem wl_890 : (Cond.methodLink RX4 328 yX4_arePairs) ∈ wsL_law := wr_wsL_law_r38 _ (List.mem_of_getElem? (i := 2) rfl)
theorem wl_891 : (Cond.instanceMethod yX4_arePairs) ∈ wsL_law := wr_wsL_law_r38 _ (List.mem_of_getElem? (i := 3) rfl)
theorem wl_892 : (Cond.selects RX4 yX4_arePairs yX4_arePairs) ∈ wsL_law := wr_wsL_law_r38 _ (List.mem_of_getElem? (i := 4) rfl)
theorem wl_893 : (Cond.code yX4_arePairs cX4_arePairs 2 (some .boolean)) ∈ wsL_law := wr_wsL_law_r38 _ (List.mem_of_getElem? (i := 5) rfl)
theorem wl_894 : (Cond.methodLink RX4 331 yX4_isIllBy) ∈ wsL_law := wr_wsL_law_r38 _ (List.mem_of_getElem? (i := 6) rfl)
theorem wl_895 : (Cond.instanceMethod yX4_isIllBy) ∈ wsL_law := wr_wsL_law_r38 _ (List.mem_of_getElem? (i := 7) rfl)
theorem wl_896 : (Cond.selects RX4 yX4_isIllBy yX4_isIllBy) ∈ wsL_law := wr_wsL_law_r38 _ (List.mem_of_getElem? (i := 8) rfl)
theorem wl_897 : (Cond.code yX4_isIllBy cX4_isIllBy 4 (some .boolean)) ∈ wsL_law := wr_wsL_law_r38 _ (List.mem_of_getElem? (i := 9) rfl)
theorem wl_898 : (Cond.methodLink RL 170 yX3_row) ∈ wsL_law := wr_wsL_law_r38 _ (List.mem_of_getElem? (i := 10) rfl)
theorem wl_899 : (Cond.instanceMethod yX3_row) ∈ wsL_law := wr_wsL_law_r38 _ (List.mem_of_getElem? (i := 11) rfl)
theorem wl_900 : (Cond.selects RX3 yX3_row yX3_row) ∈ wsL_law := wr_wsL_law_r38 _ (List.mem_of_getElem? (i := 12) rfl)
theorem wl_901 : (Cond.code yX3_row cX3_row 3 (some .int)) ∈ wsL_law := wr_wsL_law_r38 _ (List.mem_of_getElem? (i := 13) rfl)
theorem wl_902 : (Cond.methodLink RL 173 yX4_row) ∈ wsL_law := wr_wsL_law_r38 _ (List.mem_of_getElem? (i := 14) rfl)
theorem wl_903 : (Cond.instanceMethod yX4_row) ∈ wsL_law := wr_wsL_law_r38 _ (List.mem_of_getElem? (i := 15) rfl)
theorem wl_904 : (Cond.selects RX4 yX4_row yX4_row) ∈ wsL_law := wr_wsL_law_r38 _ (List.mem_of_getElem? (i := 16) rfl)
theorem wl_905 : (Cond.code yX4_row cX4_row 3 (some .int)) ∈ wsL_law := wr_wsL_law_r38 _ (List.mem_of_getElem? (i := 17) rfl)
theorem wl_906 : (Cond.methodLink RL 174 yX3_judge) ∈ wsL_law := wr_wsL_law_r38 _ (List.mem_of_getElem? (i := 18) rfl)
theorem wl_907 : (Cond.instanceMethod yX3_judge) ∈ wsL_law := wr_wsL_law_r38 _ (List.mem_of_getElem? (i := 19) rfl)
theorem wl_908 : (Cond.selects RX3 yX3_judge yX3_judge) ∈ wsL_law := wr_wsL_law_r38 _ (List.mem_of_getElem? (i := 20) rfl)
theorem wl_909 : (Cond.code yX3_judge cX3_judge 4 (some .int)) ∈ wsL_law := wr_wsL_law_r38 _ (List.mem_of_getElem? (i := 21) rfl)
theorem wl_910 : (Cond.methodLink RL 177 yX4_judge) ∈ wsL_law := wr_wsL_law_r38 _ (List.mem_of_getElem? (i := 22) rfl)
theorem wl_911 : (Cond.instanceMethod yX4_judge) ∈ wsL_law := wr_wsL_law_r38 _ (List.mem_of_getElem? (i := 23) rfl)
theorem wl_912 : (Cond.selects RX4 yX4_judge yX4_judge) ∈ wsL_law := wr_wsL_law_r39 _ (List.mem_of_getElem? (i := 0) rfl)
theorem wl_913 : (Cond.code yX4_judge cX4_judge 3 (some .int)) ∈ wsL_law := wr_wsL_law_r39 _ (List.mem_of_getElem? (i := 1) rfl)
theorem wl_914 : (Cond.methodLink RL 178 yX3_clear) ∈ wsL_law := wr_wsL_law_r39 _ (List.mem_of_getElem? (i := 2) rfl)
theorem wl_915 : (Cond.instanceMethod yX3_clear) ∈ wsL_law := wr_wsL_law_r39 _ (List.mem_of_getElem? (i := 3) rfl)
theorem wl_916 : (Cond.selects RX3 yX3_clear yX3_clear) ∈ wsL_law := wr_wsL_law_r39 _ (List.mem_of_getElem? (i := 4) rfl)
theorem wl_917 : (Cond.code yX3_clear cX3_clear 2 (some .int)) ∈ wsL_law := wr_wsL_law_r39 _ (List.mem_of_getElem? (i := 5) rfl)
theorem wl_918 : (Cond.methodLink RL 181 yX4_clear) ∈ wsL_law := wr_wsL_law_r39 _ (List.mem_of_getElem? (i := 6) rfl)
theorem wl_919 : (Cond.instanceMethod yX4_clear) ∈ wsL_law := wr_wsL_law_r39 _ (List.mem_of_getElem? (i := 7) rfl)
theorem wl_920 : (Cond.selects RX4 yX4_clear yX4_clear) ∈ wsL_law := wr_wsL_law_r39 _ (List.mem_of_getElem? (i := 8) rfl)
theorem wl_921 : (Cond.code yX4_clear cX4_clear 2 (some .int)) ∈ wsL_law := wr_wsL_law_r39 _ (List.mem_of_getElem? (i := 9) rfl)
theorem wl_922 : (Cond.methodLink RL 182 yX3_seeds) ∈ wsL_law := wr_wsL_law_r39 _ (List.mem_of_getElem? (i := 10) rfl)
theorem wl_923 : (Cond.instanceMethod yX3_seeds) ∈ wsL_law := wr_wsL_law_r39 _ (List.mem_of_getElem? (i := 11) rfl)
theorem wl_924 : (Cond.selects RX3 yX3_seeds yX3_seeds) ∈ wsL_law := wr_wsL_law_r39 _ (List.mem_of_getElem? (i := 12) rfl)
theorem wl_925 : (Cond.code yX3_seeds cX3_seeds 13 (some .int)) ∈ wsL_law := wr_wsL_law_r39 _ (List.mem_of_getElem? (i := 13) rfl)
theorem wl_926 : (Cond.methodLink RX3 334 yX3_nextSeed) ∈ wsL_law := wr_wsL_law_r39 _ (List.mem_of_getElem? (i := 14) rfl)
theorem wl_927 : (Cond.static yX3_nextSeed) ∈ wsL_law := wr_wsL_law_r39 _ (List.mem_of_getElem? (i := 15) rfl)
theorem wl_928 : (Cond.code yX3_nextSeed cX3_nextSeed 1 (some .int)) ∈ wsL_law := wr_wsL_law_r39 _ (List.mem_of_getElem? (i := 16) rfl)
theorem wl_929 : (Cond.constant RX3 340 (1103515245)) ∈ wsL_law := wr_wsL_law_r39 _ (List.mem_of_getElem? (i := 17) rfl)
theorem wl_930 : (Cond.methodLink RX3 337 yX3_draw) ∈ wsL_law := wr_wsL_law_r39 _ (List.mem_of_getElem? (i := 18) rfl)
theorem wl_931 : (Cond.static yX3_draw) ∈ wsL_law := wr_wsL_law_r39 _ (List.mem_of_getElem? (i := 19) rfl)
theorem wl_932 : (Cond.code yX3_draw cX3_draw 2 (some .int)) ∈ wsL_law := wr_wsL_law_r39 _ (List.mem_of_getElem? (i := 20) rfl)
theorem wl_933 : (Cond.constant RX3 341 (2147483647)) ∈ wsL_law := wr_wsL_law_r39 _ (List.mem_of_getElem? (i := 21) rfl)
theorem wl_934 : (Cond.constant RX3 342 (65536)) ∈ wsL_law := wr_wsL_law_r39 _ (List.mem_of_getElem? (i := 22) rfl)
theorem wl_935 : (Cond.methodLink RL 185 yX4_seeds) ∈ wsL_law := wr_wsL_law_r39 _ (List.mem_of_getElem? (i := 23) rfl)
theorem wl_936 : (Cond.instanceMethod yX4_seeds) ∈ wsL_law := wr_wsL_law_r40 _ (List.mem_of_getElem? (i := 0) rfl)
theorem wl_937 : (Cond.selects RX4 yX4_seeds yX4_seeds) ∈ wsL_law := wr_wsL_law_r40 _ (List.mem_of_getElem? (i := 1) rfl)
theorem wl_938 : (Cond.code yX4_seeds cX4_seeds 10 (some .int)) ∈ wsL_law := wr_wsL_law_r40 _ (List.mem_of_getElem? (i := 2) rfl)
theorem wl_939 : (Cond.fieldLink RX4 334 "StillGoodModel" "lots" "I") ∈ wsL_law := wr_wsL_law_r40 _ (List.mem_of_getElem? (i := 3) rfl)
theorem wl_940 : (Cond.fieldLink RX4 343 "StillGoodModel" "weekNet" "I") ∈ wsL_law := wr_wsL_law_r40 _ (List.mem_of_getElem? (i := 4) rfl)
theorem wl_941 : (Cond.fieldLink RX4 340 "StillGoodModel" "weekUse" "I") ∈ wsL_law := wr_wsL_law_r40 _ (List.mem_of_getElem? (i := 5) rfl)
theorem wl_942 : (Cond.methodLink RX4 346 yX4_goesWeek) ∈ wsL_law := wr_wsL_law_r40 _ (List.mem_of_getElem? (i := 6) rfl)
theorem wl_943 : (Cond.instanceMethod yX4_goesWeek) ∈ wsL_law := wr_wsL_law_r40 _ (List.mem_of_getElem? (i := 7) rfl)
theorem wl_944 : (Cond.selects RX4 yX4_goesWeek yX4_goesWeek) ∈ wsL_law := wr_wsL_law_r40 _ (List.mem_of_getElem? (i := 8) rfl)
theorem wl_945 : (Cond.code yX4_goesWeek cX4_goesWeek 5 none) ∈ wsL_law := wr_wsL_law_r40 _ (List.mem_of_getElem? (i := 9) rfl)
theorem wl_946 : (Cond.constant RX4 337 (1103515245)) ∈ wsL_law := wr_wsL_law_r40 _ (List.mem_of_getElem? (i := 10) rfl)
theorem wl_947 : (Cond.constant RX4 338 (2147483647)) ∈ wsL_law := wr_wsL_law_r40 _ (List.mem_of_getElem? (i := 11) rfl)
theorem wl_948 : (Cond.constant RX4 339 (65536)) ∈ wsL_law := wr_wsL_law_r40 _ (List.mem_of_getElem? (i := 12) rfl)
theorem wl_949 : (Cond.methodLink RL 186 yX3_image) ∈ wsL_law := wr_wsL_law_r40 _ (List.mem_of_getElem? (i := 13) rfl)
theorem wl_950 : (Cond.instanceMethod yX3_image) ∈ wsL_law := wr_wsL_law_r40 _ (List.mem_of_getElem? (i := 14) rfl)
theorem wl_951 : (Cond.selects RX3 yX3_image yX3_image) ∈ wsL_law := wr_wsL_law_r40 _ (List.mem_of_getElem? (i := 15) rfl)
theorem wl_952 : (Cond.code yX3_image cX3_image 1 (some .int)) ∈ wsL_law := wr_wsL_law_r40 _ (List.mem_of_getElem? (i := 16) rfl)
theorem wl_953 : (Cond.methodLink RL 189 yX4_image) ∈ wsL_law := wr_wsL_law_r40 _ (List.mem_of_getElem? (i := 17) rfl)
theorem wl_954 : (Cond.instanceMethod yX4_image) ∈ wsL_law := wr_wsL_law_r40 _ (List.mem_of_getElem? (i := 18) rfl)
theorem wl_955 : (Cond.selects RX4 yX4_image yX4_image) ∈ wsL_law := wr_wsL_law_r40 _ (List.mem_of_getElem? (i := 19) rfl)
theorem wl_956 : (Cond.code yX4_image cX4_image 1 (some .int)) ∈ wsL_law := wr_wsL_law_r40 _ (List.mem_of_getElem? (i := 20) rfl)
theorem wl_957 : (Cond.fieldLink RX4 174 "StillGoodModel" "hasImage" "Z") ∈ wsL_law := wr_wsL_law_r40 _ (List.mem_of_getElem? (i := 21) rfl)
theorem wl_958 : (Cond.methodLink RL 190 yX3_restore) ∈ wsL_law := wr_wsL_law_r40 _ (List.mem_of_getElem? (i := 22) rfl)
theorem wl_959 : (Cond.instanceMethod yX3_restore) ∈ wsL_law := wr_wsL_law_r40 _ (List.mem_of_getElem? (i := 23) rfl)
theorem wl_960 : (Cond.selects RX3 yX3_restore yX3_restore) ∈ wsL_law := wr_wsL_law_r41 _ (List.mem_of_getElem? (i := 0) rfl)
theorem wl_961 : (Cond.code yX3_restore cX3_restore 1 (some .int)) ∈ wsL_law := wr_wsL_law_r41 _ (List.mem_of_getElem? (i := 1) rfl)
theorem wl_962 : (Cond.methodLink RL 193 yX4_restore) ∈ wsL_law := wr_wsL_law_r41 _ (List.mem_of_getElem? (i := 2) rfl)
theorem wl_963 : (Cond.instanceMethod yX4_restore) ∈ wsL_law := wr_wsL_law_r41 _ (List.mem_of_getElem? (i := 3) rfl)
theorem wl_964 : (Cond.selects RX4 yX4_restore yX4_restore) ∈ wsL_law := wr_wsL_law_r41 _ (List.mem_of_getElem? (i := 4) rfl)
theorem wl_965 : (Cond.code yX4_restore cX4_restore 1 (some .int)) ∈ wsL_law := wr_wsL_law_r41 _ (List.mem_of_getElem? (i := 5) rfl)
theorem wl_966 : (Cond.methodLink RL 194 yX3_count) ∈ wsL_law := wr_wsL_law_r41 _ (List.mem_of_getElem? (i := 6) rfl)
theorem wl_967 : (Cond.instanceMethod yX3_count) ∈ wsL_law := wr_wsL_law_r41 _ (List.mem_of_getElem? (i := 7) rfl)
theorem wl_968 : (Cond.selects RX3 yX3_count yX3_count) ∈ wsL_law := wr_wsL_law_r41 _ (List.mem_of_getElem? (i := 8) rfl)
theorem wl_969 : (Cond.code yX3_count cX3_count 2 (some .int)) ∈ wsL_law := wr_wsL_law_r41 _ (List.mem_of_getElem? (i := 9) rfl)
theorem wl_970 : (Cond.instanceMethod yX1_allCups) ∈ wsL_law := wr_wsL_law_r41 _ (List.mem_of_getElem? (i := 10) rfl)
theorem wl_971 : (Cond.selects RX1 yX1_allCups yX1_allCups) ∈ wsL_law := wr_wsL_law_r41 _ (List.mem_of_getElem? (i := 11) rfl)
theorem wl_972 : (Cond.code yX1_allCups cX1_allCups 4 (some .int)) ∈ wsL_law := wr_wsL_law_r41 _ (List.mem_of_getElem? (i := 12) rfl)
theorem wl_973 : (Cond.methodLink RL 197 yX4_count) ∈ wsL_law := wr_wsL_law_r41 _ (List.mem_of_getElem? (i := 13) rfl)
theorem wl_974 : (Cond.instanceMethod yX4_count) ∈ wsL_law := wr_wsL_law_r41 _ (List.mem_of_getElem? (i := 14) rfl)
theorem wl_975 : (Cond.selects RX4 yX4_count yX4_count) ∈ wsL_law := wr_wsL_law_r41 _ (List.mem_of_getElem? (i := 15) rfl)
theorem wl_976 : (Cond.code yX4_count cX4_count 2 (some .int)) ∈ wsL_law := wr_wsL_law_r41 _ (List.mem_of_getElem? (i := 16) rfl)
theorem wl_977 : (Cond.methodLink RX4 349 yX4_allCups) ∈ wsL_law := wr_wsL_law_r41 _ (List.mem_of_getElem? (i := 17) rfl)
theorem wl_978 : (Cond.instanceMethod yX4_allCups) ∈ wsL_law := wr_wsL_law_r41 _ (List.mem_of_getElem? (i := 18) rfl)
theorem wl_979 : (Cond.selects RX4 yX4_allCups yX4_allCups) ∈ wsL_law := wr_wsL_law_r41 _ (List.mem_of_getElem? (i := 19) rfl)
theorem wl_980 : (Cond.code yX4_allCups cX4_allCups 3 (some .int)) ∈ wsL_law := wr_wsL_law_r41 _ (List.mem_of_getElem? (i := 20) rfl)
theorem hiA_0 : ∀ w ∈ u_ws RX0 TX0 4, w ∈ wsL_law := wr_wsX00
theorem hiA_1 : ∀ w ∈ u_ws RX1 TX1 10, w ∈ wsL_law := wr_wsX10
theorem hiA_2 : ∀ w ∈ u_ws RX2 TX2 1, w ∈ wsL_law := wr_wsX20
theorem hiA_3 : ∀ w ∈ u_ws RX3 TX3 14, w ∈ wsL_law := wr_wsX30
theorem hiA_4 : ∀ w ∈ u_ws RX4 TX4 34, w ∈ wsL_law := wr_wsX40
theorem hiC {c0 : Cond} {u : List Cond} (h : ∀ w ∈ u, w ∈ wsL_law) : ∀ w ∈ u, w ∈ c0 :: wsL_law := fun w hw => List.mem_cons_of_mem _ (h w hw)
theorem gdA {c0 c1 : Cond} (h : c1 ∈ wsL_law) : GoodIn (c0 :: wsL_law) (c1 :: wsL_law) := fun w hw => by
  have hm : w ∈ wsL_law := by
    rcases List.mem_cons.mp hw with e | e
    · rw [e]; exact h
    · exact e
  exact ⟨List.mem_cons_of_mem _ hm, good_of_word (List.all_eq_true.mp LG w hm)⟩
theorem gdL {c1 : Cond} (h : c1 ∈ wsL_law) : GoodIn wsL_law (c1 :: wsL_law) := fun w hw => by
  have hm : w ∈ wsL_law := by
    rcases List.mem_cons.mp hw with e | e
    · rw [e]; exact h
    · exact e
  exact ⟨hm, good_of_word (List.all_eq_true.mp LG w hm)⟩
theorem gd1 {big ws : List Cond} {c : Cond} (hs : ∀ w ∈ wsL_law, w ∈ big) (h : c ∈ wsL_law) (h2 : GoodIn big ws) : GoodIn big (c :: ws) := fun w hw => by
  rcases List.mem_cons.mp hw with e | e
  · rw [e]; exact ⟨hs c h, good_of_word (List.all_eq_true.mp LG c h)⟩
  · exact h2 w e
theorem gdV {c0 c1 : Cond} {own C : String} {idx : Nat} {y : MethodName} (h : c1 ∈ wsL_law) (h1 : Cond.methodLink own idx y ∈ wsL_law) (h2 : Cond.instanceMethod y ∈ wsL_law) (h3 : Cond.selects C y y ∈ wsL_law) (h4 : Cond.initialized C ∈ wsL_law) : GoodIn (c0 :: wsL_law) (wsV own idx C y (c1 :: wsL_law)) :=
  have hs : ∀ w ∈ wsL_law, w ∈ c0 :: wsL_law := fun w hw => List.mem_cons_of_mem _ hw
  gd1 hs h1 (gd1 hs h2 (gd1 hs h3 (gd1 hs h4 (gdA h))))
theorem gdS {c0 c1 : Cond} {own : String} {idx : Nat} {y : MethodName} (h : c1 ∈ wsL_law) (h1 : Cond.methodLink own idx y ∈ wsL_law) (h2 : Cond.static y ∈ wsL_law) (h3 : Cond.initialized y.cls ∈ wsL_law) : GoodIn (c0 :: wsL_law) (va_wsS own idx y (c1 :: wsL_law)) :=
  have hs : ∀ w ∈ wsL_law, w ∈ c0 :: wsL_law := fun w hw => List.mem_cons_of_mem _ hw
  gd1 hs h1 (gd1 hs h2 (gd1 hs h3 (gdA h)))
theorem gdLV {c1 : Cond} {own C : String} {idx : Nat} {y : MethodName} (h : c1 ∈ wsL_law) (h1 : Cond.methodLink own idx y ∈ wsL_law) (h2 : Cond.instanceMethod y ∈ wsL_law) (h3 : Cond.selects C y y ∈ wsL_law) (h4 : Cond.initialized C ∈ wsL_law) : GoodIn wsL_law (wsV own idx C y (c1 :: wsL_law)) :=
  have hs : ∀ w ∈ wsL_law, w ∈ wsL_law := fun w hw => hw
  gd1 hs h1 (gd1 hs h2 (gd1 hs h3 (gd1 hs h4 (gdL h))))
def wA_X3_init : List Cond := .code yX3_init cX3_init 1 none :: wsL_law
def wA_X3_feed : List Cond := .code yX3_feed cX3_feed 3 (some .int) :: wsL_law
def wA_X3_kitchen : List Cond := .code yX3_kitchen cX3_kitchen 5 (some .int) :: wsL_law
def wA_X3_firstBadLetter : List Cond := .code yX3_firstBadLetter cX3_firstBadLetter 5 (some .int) :: wsL_law
def wA_X3_digitsOf : List Cond := .code yX3_digitsOf cX3_digitsOf 1 (some .int) :: wsL_law
def wA_X3_statementComes : List Cond := .code yX3_statementComes cX3_statementComes 4 (some .boolean) :: wsL_law
def wA_X3_letterAt : List Cond := .code yX3_letterAt cX3_letterAt 2 (some .int) :: wsL_law
def wA_X3_digitAt : List Cond := .code yX3_digitAt cX3_digitAt 2 (some .int) :: wsL_law
def wA_X3_twoDigitsAt : List Cond := .code yX3_twoDigitsAt cX3_twoDigitsAt 2 (some .int) :: wsL_law
def wA_X3_isDigit : List Cond := .code yX3_isDigit cX3_isDigit 1 (some .boolean) :: wsL_law
def wA_X3_jug : List Cond := .code yX3_jug cX3_jug 4 (some .int) :: wsL_law
def wA_X3_cold : List Cond := .code yX3_cold cX3_cold 3 (some .int) :: wsL_law
def wA_X3_warm : List Cond := .code yX3_warm cX3_warm 5 (some .int) :: wsL_law
def wA_X3_hand : List Cond := .code yX3_hand cX3_hand 3 (some .int) :: wsL_law
def wA_X3_see : List Cond := .code yX3_see cX3_see 4 (some .int) :: wsL_law
def wA_X3_unsee : List Cond := .code yX3_unsee cX3_unsee 1 (some .int) :: wsL_law
def wA_X3_use : List Cond := .code yX3_use cX3_use 4 (some .int) :: wsL_law
def wA_X3_cost : List Cond := .code yX3_cost cX3_cost 5 (some .int) :: wsL_law
def wA_X3_price : List Cond := .code yX3_price cX3_price 4 (some .int) :: wsL_law
def wA_X3_says : List Cond := .code yX3_says cX3_says 4 (some .int) :: wsL_law
def wA_X3_thought : List Cond := .code yX3_thought cX3_thought 3 (some .long) :: wsL_law
def wA_X3_likely : List Cond := .code yX3_likely cX3_likely 4 (some .long) :: wsL_law
def wA_X3_good : List Cond := .code yX3_good cX3_good 3 (some .long) :: wsL_law
def wA_X3_mean : List Cond := .code yX3_mean cX3_mean 5 (some .long) :: wsL_law
def wA_X3_best : List Cond := .code yX3_best cX3_best 3 (some .int) :: wsL_law
def wA_X3_sure : List Cond := .code yX3_sure cX3_sure 5 (some .int) :: wsL_law
def wA_X3_think : List Cond := .code yX3_think cX3_think 3 none :: wsL_law
def wA_X3_harmSum : List Cond := .code yX3_harmSum cX3_harmSum 5 (some .long) :: wsL_law
def wA_X3_looking : List Cond := .code yX3_looking cX3_looking 5 (some .long) :: wsL_law
def wA_X3_bestTest : List Cond := .code yX3_bestTest cX3_bestTest 9 (some .int) :: wsL_law
def wA_X3_two : List Cond := .code yX3_two cX3_two 9 (some .int) :: wsL_law
def wA_X3_twoWorth : List Cond := .code yX3_twoWorth cX3_twoWorth 7 (some .long) :: wsL_law
def wA_X3_free : List Cond := .code yX3_free cX3_free 9 (some .int) :: wsL_law
def wA_X3_freeWorth : List Cond := .code yX3_freeWorth cX3_freeWorth 7 (some .long) :: wsL_law
def wA_X3_useless : List Cond := .code yX3_useless cX3_useless 6 (some .int) :: wsL_law
def wA_X3_staysBest : List Cond := .code yX3_staysBest cX3_staysBest 5 (some .boolean) :: wsL_law
def wA_X3_testWorth : List Cond := .code yX3_testWorth cX3_testWorth 7 (some .long) :: wsL_law
def wA_X3_pairWorth : List Cond := .code yX3_pairWorth cX3_pairWorth 8 (some .long) :: wsL_law
def wA_X3_firstWorth : List Cond := .code yX3_firstWorth cX3_firstWorth 9 (some .long) :: wsL_law
def wA_X3_person : List Cond := .code yX3_person cX3_person 2 (some .int) :: wsL_law
def wA_X3_nobody : List Cond := .code yX3_nobody cX3_nobody 2 (some .int) :: wsL_law
def wA_X3_said : List Cond := .code yX3_said cX3_said 8 (some .long) :: wsL_law
def wA_X3_ask : List Cond := .code yX3_ask cX3_ask 8 (some .int) :: wsL_law
def wA_X3_hear : List Cond := .code yX3_hear cX3_hear 5 none :: wsL_law
def wA_X3_toldRightly : List Cond := .code yX3_toldRightly cX3_toldRightly 4 (some .long) :: wsL_law
def wA_X3_personTenths : List Cond := .code yX3_personTenths cX3_personTenths 4 (some .int) :: wsL_law
def wA_X3_keep : List Cond := .code yX3_keep cX3_keep 15 (some .int) :: wsL_law
def wA_X3_seldom : List Cond := .code yX3_seldom cX3_seldom 13 (some .int) :: wsL_law
def wA_X3_join : List Cond := .code yX3_join cX3_join 15 (some .long) :: wsL_law
def wA_X3_larder : List Cond := .code yX3_larder cX3_larder 5 (some .int) :: wsL_law
def wA_X3_buy : List Cond := .code yX3_buy cX3_buy 8 (some .int) :: wsL_law
def wA_X3_larderCosts : List Cond := .code yX3_larderCosts cX3_larderCosts 12 (some .int) :: wsL_law
def wA_X3_rule : List Cond := .code yX3_rule cX3_rule 7 (some .int) :: wsL_law
def wA_X3_bestRule : List Cond := .code yX3_bestRule cX3_bestRule 8 (some .int) :: wsL_law
def wA_X3_useByRule : List Cond := .code yX3_useByRule cX3_useByRule 4 (some .int) :: wsL_law
def wA_X3_firstHarmless : List Cond := .code yX3_firstHarmless cX3_firstHarmless 2 (some .int) :: wsL_law
def wA_X3_trueNet : List Cond := .code yX3_trueNet cX3_trueNet 4 (some .int) :: wsL_law
def wA_X3_ill : List Cond := .code yX3_ill cX3_ill 6 (some .int) :: wsL_law
def wA_X3_isRowOfPairs : List Cond := .code yX3_isRowOfPairs cX3_isRowOfPairs 2 (some .boolean) :: wsL_law
def wA_X3_kindsThatFit : List Cond := .code yX3_kindsThatFit cX3_kindsThatFit 7 (some .int) :: wsL_law
def wA_X3_row : List Cond := .code yX3_row cX3_row 3 (some .int) :: wsL_law
def wA_X3_judge : List Cond := .code yX3_judge cX3_judge 4 (some .int) :: wsL_law
def wA_X3_clear : List Cond := .code yX3_clear cX3_clear 2 (some .int) :: wsL_law
def wA_X3_seeds : List Cond := .code yX3_seeds cX3_seeds 13 (some .int) :: wsL_law
def wA_X3_nextSeed : List Cond := .code yX3_nextSeed cX3_nextSeed 1 (some .int) :: wsL_law
def wA_X3_draw : List Cond := .code yX3_draw cX3_draw 2 (some .int) :: wsL_law
def wA_X3_image : List Cond := .code yX3_image cX3_image 1 (some .int) :: wsL_law
def wA_X3_restore : List Cond := .code yX3_restore cX3_restore 1 (some .int) :: wsL_law
def wA_X3_count : List Cond := .code yX3_count cX3_count 2 (some .int) :: wsL_law
def wA_X3_refuse : List Cond := .code yX3_refuse cX3_refuse 3 (some .int) :: wsL_law
def wA_X3_refusalInHand : List Cond := .code yX3_refusalInHand cX3_refusalInHand 3 (some .int) :: wsL_law
def wA_X3_refusalOutside : List Cond := .code yX3_refusalOutside cX3_refusalOutside 3 (some .int) :: wsL_law
def wA_X3_refuseBig : List Cond := .code yX3_refuseBig cX3_refuseBig 2 (some .int) :: wsL_law
def wA_X3_refuseLong : List Cond := .code yX3_refuseLong cX3_refuseLong 2 (some .long) :: wsL_law
def wA_X3_isOneOf : List Cond := .code yX3_isOneOf cX3_isOneOf 2 (some .boolean) :: wsL_law
def wA_X3_at : List Cond := .code yX3_at cX3_at 2 (some .int) :: wsL_law
def wA_X3_heldTenths : List Cond := .code yX3_heldTenths cX3_heldTenths 1 (some .int) :: wsL_law
def wA_X3_harmOf : List Cond := .code yX3_harmOf cX3_harmOf 2 (some .int) :: wsL_law
def wA_X3_inLeastTerms : List Cond := .code yX3_inLeastTerms cX3_inLeastTerms 12 (some .long) :: wsL_law
def wA_X4_init : List Cond := .code yX4_init cX4_init 1 none :: wsL_law
def wA_X4_no : List Cond := .code yX4_no cX4_no 2 (some .int) :: wsL_law
def wA_X4_lower : List Cond := .code yX4_lower cX4_lower 2 (some .int) :: wsL_law
def wA_X4_lowest : List Cond := .code yX4_lowest cX4_lowest 2 (some .long) :: wsL_law
def wA_X4_isIn : List Cond := .code yX4_isIn cX4_isIn 3 (some .boolean) :: wsL_law
def wA_X4_bound : List Cond := .code yX4_bound cX4_bound 3 (some .int) :: wsL_law
def wA_X4_isJug : List Cond := .code yX4_isJug cX4_isJug 2 (some .boolean) :: wsL_law
def wA_X4_isWhom : List Cond := .code yX4_isWhom cX4_isWhom 1 (some .boolean) :: wsL_law
def wA_X4_feed : List Cond := .code yX4_feed cX4_feed 3 (some .int) :: wsL_law
def wA_X4_next : List Cond := .code yX4_next cX4_next 1 (some .int) :: wsL_law
def wA_X4_readsDigits : List Cond := .code yX4_readsDigits cX4_readsDigits 5 (some .boolean) :: wsL_law
def wA_X4_readsAll : List Cond := .code yX4_readsAll cX4_readsAll 3 (some .boolean) :: wsL_law
def wA_X4_statement : List Cond := .code yX4_statement cX4_statement 2 (some .boolean) :: wsL_law
def wA_X4_comesJug : List Cond := .code yX4_comesJug cX4_comesJug 2 (some .boolean) :: wsL_law
def wA_X4_comesSeen : List Cond := .code yX4_comesSeen cX4_comesSeen 3 (some .boolean) :: wsL_law
def wA_X4_comesUse : List Cond := .code yX4_comesUse cX4_comesUse 2 (some .boolean) :: wsL_law
def wA_X4_comes : List Cond := .code yX4_comes cX4_comes 5 (some .boolean) :: wsL_law
def wA_X4_kitchen : List Cond := .code yX4_kitchen cX4_kitchen 3 (some .int) :: wsL_law
def wA_X4_passes : List Cond := .code yX4_passes cX4_passes 3 none :: wsL_law
def wA_X4_passOne : List Cond := .code yX4_passOne cX4_passOne 3 (some .int) :: wsL_law
def wA_X4_passesAll : List Cond := .code yX4_passesAll cX4_passesAll 3 none :: wsL_law
def wA_X4_image : List Cond := .code yX4_image cX4_image 1 (some .int) :: wsL_law
def wA_X4_restore : List Cond := .code yX4_restore cX4_restore 1 (some .int) :: wsL_law
def wA_X4_coldOf : List Cond := .code yX4_coldOf cX4_coldOf 1 (some .int) :: wsL_law
def wA_X4_warmOf : List Cond := .code yX4_warmOf cX4_warmOf 2 (some .int) :: wsL_law
def wA_X4_heldPoints : List Cond := .code yX4_heldPoints cX4_heldPoints 1 (some .int) :: wsL_law
def wA_X4_gains : List Cond := .code yX4_gains cX4_gains 3 none :: wsL_law
def wA_X4_allStand : List Cond := .code yX4_allStand cX4_allStand 3 none :: wsL_law
def wA_X4_stageAt : List Cond := .code yX4_stageAt cX4_stageAt 1 (some .int) :: wsL_law
def wA_X4_truly : List Cond := .code yX4_truly cX4_truly 2 (some .int) :: wsL_law
def wA_X4_allPoints : List Cond := .code yX4_allPoints cX4_allPoints 3 (some .int) :: wsL_law
def wA_X4_jug : List Cond := .code yX4_jug cX4_jug 3 (some .int) :: wsL_law
def wA_X4_cold : List Cond := .code yX4_cold cX4_cold 3 (some .int) :: wsL_law
def wA_X4_warm : List Cond := .code yX4_warm cX4_warm 4 (some .int) :: wsL_law
def wA_X4_hand : List Cond := .code yX4_hand cX4_hand 3 (some .int) :: wsL_law
def wA_X4_sees : List Cond := .code yX4_sees cX4_sees 3 none :: wsL_law
def wA_X4_isTest : List Cond := .code yX4_isTest cX4_isTest 1 (some .boolean) :: wsL_law
def wA_X4_see : List Cond := .code yX4_see cX4_see 4 (some .int) :: wsL_law
def wA_X4_unsee : List Cond := .code yX4_unsee cX4_unsee 1 (some .int) :: wsL_law
def wA_X4_uses : List Cond := .code yX4_uses cX4_uses 4 (some .int) :: wsL_law
def wA_X4_use : List Cond := .code yX4_use cX4_use 3 (some .int) :: wsL_law
def wA_X4_cost : List Cond := .code yX4_cost cX4_cost 5 (some .int) :: wsL_law
def wA_X4_price : List Cond := .code yX4_price cX4_price 4 (some .int) :: wsL_law
def wA_X4_held : List Cond := .code yX4_held cX4_held 1 (some .int) :: wsL_law
def wA_X4_tenthsOf : List Cond := .code yX4_tenthsOf cX4_tenthsOf 2 (some .int) :: wsL_law
def wA_X4_saysOff : List Cond := .code yX4_saysOff cX4_saysOff 5 (some .int) :: wsL_law
def wA_X4_weightAt : List Cond := .code yX4_weightAt cX4_weightAt 6 (some .int) :: wsL_law
def wA_X4_worthOf : List Cond := .code yX4_worthOf cX4_worthOf 3 (some .int) :: wsL_law
def wA_X4_harmOf : List Cond := .code yX4_harmOf cX4_harmOf 3 (some .int) :: wsL_law
def wA_X4_timesFor : List Cond := .code yX4_timesFor cX4_timesFor 1 (some .int) :: wsL_law
def wA_X4_netOf : List Cond := .code yX4_netOf cX4_netOf 4 (some .int) :: wsL_law
def wA_X4_findThought : List Cond := .code yX4_findThought cX4_findThought 4 none :: wsL_law
def wA_X4_allThought : List Cond := .code yX4_allThought cX4_allThought 4 (some .long) :: wsL_law
def wA_X4_netBy : List Cond := .code yX4_netBy cX4_netBy 7 (some .long) :: wsL_law
def wA_X4_bestUse : List Cond := .code yX4_bestUse cX4_bestUse 5 (some .int) :: wsL_law
def wA_X4_bestNet : List Cond := .code yX4_bestNet cX4_bestNet 3 (some .long) :: wsL_law
def wA_X4_divisor : List Cond := .code yX4_divisor cX4_divisor 10 (some .long) :: wsL_law
def wA_X4_partOf : List Cond := .code yX4_partOf cX4_partOf 5 (some .long) :: wsL_law
def wA_X4_isStage : List Cond := .code yX4_isStage cX4_isStage 1 (some .boolean) :: wsL_law
def wA_X4_says : List Cond := .code yX4_says cX4_says 4 (some .int) :: wsL_law
def wA_X4_thought : List Cond := .code yX4_thought cX4_thought 3 (some .long) :: wsL_law
def wA_X4_likely : List Cond := .code yX4_likely cX4_likely 4 (some .long) :: wsL_law
def wA_X4_good : List Cond := .code yX4_good cX4_good 3 (some .long) :: wsL_law
def wA_X4_mean : List Cond := .code yX4_mean cX4_mean 5 (some .long) :: wsL_law
def wA_X4_notBest : List Cond := .code yX4_notBest cX4_notBest 2 (some .int) :: wsL_law
def wA_X4_best : List Cond := .code yX4_best cX4_best 3 (some .int) :: wsL_law
def wA_X4_sure : List Cond := .code yX4_sure cX4_sure 5 (some .int) :: wsL_law
def wA_X4_harmParts : List Cond := .code yX4_harmParts cX4_harmParts 5 (some .long) :: wsL_law
def wA_X4_laysAnswer : List Cond := .code yX4_laysAnswer cX4_laysAnswer 6 none :: wsL_law
def wA_X4_bestBehind : List Cond := .code yX4_bestBehind cX4_bestBehind 6 (some .long) :: wsL_law
def wA_X4_lookParts : List Cond := .code yX4_lookParts cX4_lookParts 5 (some .long) :: wsL_law
def wA_X4_looking : List Cond := .code yX4_looking cX4_looking 5 (some .long) :: wsL_law
def wA_X4_bestTest : List Cond := .code yX4_bestTest cX4_bestTest 9 (some .int) :: wsL_law
def wA_X4_laysParts : List Cond := .code yX4_laysParts cX4_laysParts 4 none :: wsL_law
def wA_X4_twoParts : List Cond := .code yX4_twoParts cX4_twoParts 7 (some .long) :: wsL_law
def wA_X4_bestTwo : List Cond := .code yX4_bestTwo cX4_bestTwo 4 (some .int) :: wsL_law
def wA_X4_two : List Cond := .code yX4_two cX4_two 4 (some .int) :: wsL_law
def wA_X4_notPart : List Cond := .code yX4_notPart cX4_notPart 3 (some .int) :: wsL_law
def wA_X4_twoWorth : List Cond := .code yX4_twoWorth cX4_twoWorth 5 (some .long) :: wsL_law
def wA_X4_allParts : List Cond := .code yX4_allParts cX4_allParts 4 (some .long) :: wsL_law
def wA_X4_freeParts : List Cond := .code yX4_freeParts cX4_freeParts 11 (some .long) :: wsL_law
def wA_X4_bestFree : List Cond := .code yX4_bestFree cX4_bestFree 4 (some .int) :: wsL_law
def wA_X4_free : List Cond := .code yX4_free cX4_free 3 (some .int) :: wsL_law
def wA_X4_freeWorth : List Cond := .code yX4_freeWorth cX4_freeWorth 4 (some .long) :: wsL_law
def wA_X4_useless : List Cond := .code yX4_useless cX4_useless 8 (some .int) :: wsL_law
def wA_X4_person : List Cond := .code yX4_person cX4_person 3 (some .int) :: wsL_law
def wA_X4_nobody : List Cond := .code yX4_nobody cX4_nobody 2 (some .int) :: wsL_law
def wA_X4_personOff : List Cond := .code yX4_personOff cX4_personOff 4 (some .int) :: wsL_law
def wA_X4_said : List Cond := .code yX4_said cX4_said 9 (some .long) :: wsL_law
def wA_X4_rightOf : List Cond := .code yX4_rightOf cX4_rightOf 5 (some .long) :: wsL_law
def wA_X4_ask : List Cond := .code yX4_ask cX4_ask 3 (some .int) :: wsL_law
def wA_X4_laysWeights : List Cond := .code yX4_laysWeights cX4_laysWeights 5 none :: wsL_law
def wA_X4_keep : List Cond := .code yX4_keep cX4_keep 15 (some .int) :: wsL_law
def wA_X4_seldom : List Cond := .code yX4_seldom cX4_seldom 6 (some .int) :: wsL_law
def wA_X4_join : List Cond := .code yX4_join cX4_join 16 (some .long) :: wsL_law
def wA_X4_larderBy : List Cond := .code yX4_larderBy cX4_larderBy 10 (some .int) :: wsL_law
def wA_X4_larder : List Cond := .code yX4_larder cX4_larder 6 (some .int) :: wsL_law
def wA_X4_buy : List Cond := .code yX4_buy cX4_buy 7 (some .int) :: wsL_law
def wA_X4_useBy : List Cond := .code yX4_useBy cX4_useBy 4 (some .int) :: wsL_law
def wA_X4_netByRule : List Cond := .code yX4_netByRule cX4_netByRule 4 (some .int) :: wsL_law
def wA_X4_rule : List Cond := .code yX4_rule cX4_rule 6 (some .int) :: wsL_law
def wA_X4_netOfAll : List Cond := .code yX4_netOfAll cX4_netOfAll 5 (some .int) :: wsL_law
def wA_X4_bestRule : List Cond := .code yX4_bestRule cX4_bestRule 4 (some .int) :: wsL_law
def wA_X4_arePairs : List Cond := .code yX4_arePairs cX4_arePairs 2 (some .boolean) :: wsL_law
def wA_X4_isIllBy : List Cond := .code yX4_isIllBy cX4_isIllBy 4 (some .boolean) :: wsL_law
def wA_X4_ill : List Cond := .code yX4_ill cX4_ill 7 (some .int) :: wsL_law
def wA_X4_row : List Cond := .code yX4_row cX4_row 3 (some .int) :: wsL_law
def wA_X4_judge : List Cond := .code yX4_judge cX4_judge 3 (some .int) :: wsL_law
def wA_X4_clear : List Cond := .code yX4_clear cX4_clear 2 (some .int) :: wsL_law
def wA_X4_goesWeek : List Cond := .code yX4_goesWeek cX4_goesWeek 5 none :: wsL_law
def wA_X4_seeds : List Cond := .code yX4_seeds cX4_seeds 10 (some .int) :: wsL_law
def wA_X4_allCups : List Cond := .code yX4_allCups cX4_allCups 3 (some .int) :: wsL_law
def wA_X4_count : List Cond := .code yX4_count cX4_count 2 (some .int) :: wsL_law
def wA_X0_init : List Cond := .code yX0_init cX0_init 1 none :: wsL_law
def wA_X0_fill : List Cond := .code yX0_fill cX0_fill 5 none :: wsL_law
def wA_X0_fillFrom : List Cond := .code yX0_fillFrom cX0_fillFrom 2 none :: wsL_law
def wA_X0_gain : List Cond := .code yX0_gain cX0_gain 2 none :: wsL_law
def wA_X0_coldPoints : List Cond := .code yX0_coldPoints cX0_coldPoints 1 (some .int) :: wsL_law
def wA_X0_warmPoints : List Cond := .code yX0_warmPoints cX0_warmPoints 1 (some .int) :: wsL_law
def wA_X0_trueStage : List Cond := .code yX0_trueStage cX0_trueStage 1 (some .int) :: wsL_law
def wA_X0_weightOf : List Cond := .code yX0_weightOf cX0_weightOf 3 (some .int) :: wsL_law
def wA_X0_offTenths : List Cond := .code yX0_offTenths cX0_offTenths 4 (some .int) :: wsL_law
def wA_X1_init : List Cond := .code yX1_init cX1_init 2 none :: wsL_law
def wA_X1_copyFrom : List Cond := .code yX1_copyFrom cX1_copyFrom 5 none :: wsL_law
def wA_X1_copyRow : List Cond := .code yX1_copyRow cX1_copyRow 3 none :: wsL_law
def wA_X1_jugAt : List Cond := .code yX1_jugAt cX1_jugAt 2 (some (.object "StillGood$Jug")) :: wsL_law
def wA_X1_inHand : List Cond := .code yX1_inHand cX1_inHand 1 (some (.object "StillGood$Jug")) :: wsL_law
def wA_X1_addJug : List Cond := .code yX1_addJug cX1_addJug 6 (some .boolean) :: wsL_law
def wA_X1_standInCold : List Cond := .code yX1_standInCold cX1_standInCold 4 none :: wsL_law
def wA_X1_standInWarm : List Cond := .code yX1_standInWarm cX1_standInWarm 4 (some .boolean) :: wsL_law
def wA_X1_takeInHand : List Cond := .code yX1_takeInHand cX1_takeInHand 2 (some .boolean) :: wsL_law
def wA_X1_addSeen : List Cond := .code yX1_addSeen cX1_addSeen 3 (some .boolean) :: wsL_law
def wA_X1_takeCups : List Cond := .code yX1_takeCups cX1_takeCups 3 (some .boolean) :: wsL_law
def wA_X1_dropInHand : List Cond := .code yX1_dropInHand cX1_dropInHand 3 none :: wsL_law
def wA_X1_costOf : List Cond := .code yX1_costOf cX1_costOf 2 (some .int) :: wsL_law
def wA_X1_setCost : List Cond := .code yX1_setCost cX1_setCost 3 (some .boolean) :: wsL_law
def wA_X1_addPerson : List Cond := .code yX1_addPerson cX1_addPerson 2 (some .boolean) :: wsL_law
def wA_X1_allCups : List Cond := .code yX1_allCups cX1_allCups 4 (some .int) :: wsL_law
def wA_X1_allPoints : List Cond := .code yX1_allPoints cX1_allPoints 4 (some .int) :: wsL_law
def wA_X1_netOf : List Cond := .code yX1_netOf cX1_netOf 6 (some .int) :: wsL_law
def wA_X1_netSum : List Cond := .code yX1_netSum cX1_netSum 7 (some .long) :: wsL_law
def wA_X1_bestUse : List Cond := .code yX1_bestUse cX1_bestUse 9 (some .int) :: wsL_law
def wA_X1_bestSum : List Cond := .code yX1_bestSum cX1_bestSum 6 (some .long) :: wsL_law
def wA_X2_init : List Cond := .code yX2_init cX2_init 1 none :: wsL_law
def wA_X2_weigh : List Cond := .code yX2_weigh cX2_weigh 3 none :: wsL_law
def wA_X2_narrow : List Cond := .code yX2_narrow cX2_narrow 7 none :: wsL_law
def wA_X2_times : List Cond := .code yX2_times cX2_times 3 none :: wsL_law
def wA_X2_worseOf : List Cond := .code yX2_worseOf cX2_worseOf 4 none :: wsL_law
def wA_X2_sumOf : List Cond := .code yX2_sumOf cX2_sumOf 6 (some .long) :: wsL_law
def wA_X2_sumOfAll : List Cond := .code yX2_sumOfAll cX2_sumOfAll 1 (some .long) :: wsL_law
