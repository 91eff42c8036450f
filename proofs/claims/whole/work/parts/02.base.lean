theorem inr1 : ∀ w ∈ wsL_law_r1, w ∈ wsL_law := fun _ h => List.mem_append_left _ (List.mem_append_left _ (List.mem_append_left _ (List.mem_append_left _ (List.mem_append_left _ (List.mem_append_left _ (List.mem_append_left _ (List.mem_append_left _ (List.mem_append_left _ (List.mem_append_left _ (List.mem_append_left _ h))))))))))
theorem inr2 : ∀ w ∈ wsL_law_r2, w ∈ wsL_law := fun _ h => List.mem_append_left _ (List.mem_append_left _ (List.mem_append_left _ (List.mem_append_left _ (List.mem_append_left _ (List.mem_append_left _ (List.mem_append_left _ (List.mem_append_left _ (List.mem_append_left _ (List.mem_append_left _ (List.mem_append_right _ (List.mem_append_left _ h)))))))))))
theorem inr3 : ∀ w ∈ wsL_law_r3, w ∈ wsL_law := fun _ h => List.mem_append_left _ (List.mem_append_left _ (List.mem_append_left _ (List.mem_append_left _ (List.mem_append_left _ (List.mem_append_left _ (List.mem_append_left _ (List.mem_append_left _ (List.mem_append_left _ (List.mem_append_left _ (List.mem_append_right _ (List.mem_append_right _ (List.mem_append_left _ h))))))))))))
theorem inr4 : ∀ w ∈ wsL_law_r4, w ∈ wsL_law := fun _ h => List.mem_append_left _ (List.mem_append_left _ (List.mem_append_left _ (List.mem_append_left _ (List.mem_append_left _ (List.mem_append_left _ (List.mem_append_left _ (List.mem_append_left _ (List.mem_append_left _ (List.mem_append_left _ (List.mem_append_right _ (List.mem_append_right _ (List.mem_append_right _ (List.mem_append_left _ h)))))))))))))
theorem inr5 : ∀ w ∈ wsL_law_r5, w ∈ wsL_law := fun _ h => List.mem_append_left _ (List.mem_append_left _ (List.mem_append_left _ (List.mem_append_left _ (List.mem_append_left _ (List.mem_append_left _ (List.mem_append_left _ (List.mem_append_left _ (List.mem_append_left _ (List.mem_append_left _ (List.mem_append_right _ (List.mem_append_right _ (List.mem_append_right _ (List.mem_append_right _ (List.mem_append_left _ h))))))))))))))
theorem inr6 : ∀ w ∈ wsL_law_r6, w ∈ wsL_law := fun _ h => List.mem_append_left _ (List.mem_append_left _ (List.mem_append_left _ (List.mem_append_left _ (List.mem_append_left _ (List.mem_append_left _ (List.mem_append_left _ (List.mem_append_left _ (List.mem_append_left _ (List.mem_append_left _ (List.mem_append_right _ (List.mem_append_right _ (List.mem_append_right _ (List.mem_append_right _ (List.mem_append_right _ (List.mem_append_left _ h)))))))))))))))
theorem inr7 : ∀ w ∈ wsL_law_r7, w ∈ wsL_law := fun _ h => List.mem_append_left _ (List.mem_append_left _ (List.mem_append_left _ (List.mem_append_left _ (List.mem_append_left _ (List.mem_append_left _ (List.mem_append_left _ (List.mem_append_left _ (List.mem_append_left _ (List.mem_append_left _ (List.mem_append_right _ (List.mem_append_right _ (List.mem_append_right _ (List.mem_append_right _ (List.mem_append_right _ (List.mem_append_right _ (List.mem_append_left _ h))))))))))))))))
theorem inr8 : ∀ w ∈ wsL_law_r8, w ∈ wsL_law := fun _ h => List.mem_append_left _ (List.mem_append_left _ (List.mem_append_left _ (List.mem_append_left _ (List.mem_append_left _ (List.mem_append_left _ (List.mem_append_left _ (List.mem_append_left _ (List.mem_append_left _ (List.mem_append_left _ (List.mem_append_right _ (List.mem_append_right _ (List.mem_append_right _ (List.mem_append_right _ (List.mem_append_right _ (List.mem_append_right _ (List.mem_append_right _ (List.mem_append_left _ h)))))))))))))))))
theorem inr9 : ∀ w ∈ wsL_law_r9, w ∈ wsL_law := fun _ h => List.mem_append_left _ (List.mem_append_left _ (List.mem_append_left _ (List.mem_append_left _ (List.mem_append_left _ (List.mem_append_left _ (List.mem_append_left _ (List.mem_append_left _ (List.mem_append_left _ (List.mem_append_left _ (List.mem_append_right _ (List.mem_append_right _ (List.mem_append_right _ (List.mem_append_right _ (List.mem_append_right _ (List.mem_append_right _ (List.mem_append_right _ (List.mem_append_right _ (List.mem_append_left _ h))))))))))))))))))
theorem inr10 : ∀ w ∈ wsL_law_r10, w ∈ wsL_law := fun _ h => List.mem_append_left _ (List.mem_append_left _ (List.mem_append_left _ (List.mem_append_left _ (List.mem_append_left _ (List.mem_append_left _ (List.mem_append_left _ (List.mem_append_left _ (List.mem_append_left _ (List.mem_append_left _ (List.mem_append_right _ (List.mem_append_right _ (List.mem_append_right _ (List.mem_append_right _ (List.mem_append_right _ (List.mem_append_right _ (List.mem_append_right _ (List.mem_append_right _ (List.mem_append_right _ (List.mem_append_left _ h)))))))))))))))))))
theorem inr11 : ∀ w ∈ wsL_law_r11, w ∈ wsL_law := fun _ h => List.mem_append_left _ (List.mem_append_left _ (List.mem_append_left _ (List.mem_append_left _ (List.mem_append_left _ (List.mem_append_left _ (List.mem_append_left _ (List.mem_append_left _ (List.mem_append_left _ (List.mem_append_left _ (List.mem_append_right _ (List.mem_append_right _ (List.mem_append_right _ (List.mem_append_right _ (List.mem_append_right _ (List.mem_append_right _ (List.mem_append_right _ (List.mem_append_right _ (List.mem_append_right _ (List.mem_append_right _ (List.mem_append_left _ h))))))))))))))))))))
theorem inr12 : ∀ w ∈ wsL_law_r12, w ∈ wsL_law := fun _ h => List.mem_append_left _ (List.mem_append_left _ (List.mem_append_left _ (List.mem_append_left _ (List.mem_append_left _ (List.mem_append_left _ (List.mem_append_left _ (List.mem_append_left _ (List.mem_append_left _ (List.mem_append_left _ (List.mem_append_right _ (List.mem_append_right _ (List.mem_append_right _ (List.mem_append_right _ (List.mem_append_right _ (List.mem_append_right _ (List.mem_append_right _ (List.mem_append_right _ (List.mem_append_right _ (List.mem_append_right _ (List.mem_append_right _ (List.mem_append_left _ h)))))))))))))))))))))
theorem inr13 : ∀ w ∈ wsL_law_r13, w ∈ wsL_law := fun _ h => List.mem_append_left _ (List.mem_append_left _ (List.mem_append_left _ (List.mem_append_left _ (List.mem_append_left _ (List.mem_append_left _ (List.mem_append_left _ (List.mem_append_left _ (List.mem_append_left _ (List.mem_append_left _ (List.mem_append_right _ (List.mem_append_right _ (List.mem_append_right _ (List.mem_append_right _ (List.mem_append_right _ (List.mem_append_right _ (List.mem_append_right _ (List.mem_append_right _ (List.mem_append_right _ (List.mem_append_right _ (List.mem_append_right _ (List.mem_append_right _ (List.mem_append_left _ h))))))))))))))))))))))
theorem inr14 : ∀ w ∈ wsL_law_r14, w ∈ wsL_law := fun _ h => List.mem_append_left _ (List.mem_append_left _ (List.mem_append_left _ (List.mem_append_left _ (List.mem_append_left _ (List.mem_append_left _ (List.mem_append_left _ (List.mem_append_left _ (List.mem_append_left _ (List.mem_append_left _ (List.mem_append_right _ (List.mem_append_right _ (List.mem_append_right _ (List.mem_append_right _ (List.mem_append_right _ (List.mem_append_right _ (List.mem_append_right _ (List.mem_append_right _ (List.mem_append_right _ (List.mem_append_right _ (List.mem_append_right _ (List.mem_append_right _ (List.mem_append_right _ (List.mem_append_left _ h)))))))))))))))))))))))
theorem inr15 : ∀ w ∈ wsL_law_r15, w ∈ wsL_law := fun _ h => List.mem_append_left _ (List.mem_append_left _ (List.mem_append_left _ (List.mem_append_left _ (List.mem_append_left _ (List.mem_append_left _ (List.mem_append_left _ (List.mem_append_left _ (List.mem_append_left _ (List.mem_append_left _ (List.mem_append_right _ (List.mem_append_right _ (List.mem_append_right _ (List.mem_append_right _ (List.mem_append_right _ (List.mem_append_right _ (List.mem_append_right _ (List.mem_append_right _ (List.mem_append_right _ (List.mem_append_right _ (List.mem_append_right _ (List.mem_append_right _ (List.mem_append_right _ (List.mem_append_right _ (List.mem_append_left _ h))))))))))))))))))))))))
theorem inr16 : ∀ w ∈ wsL_law_r16, w ∈ wsL_law := fun _ h => List.mem_append_left _ (List.mem_append_left _ (List.mem_append_left _ (List.mem_append_left _ (List.mem_append_left _ (List.mem_append_left _ (List.mem_append_left _ (List.mem_append_left _ (List.mem_append_left _ (List.mem_append_left _ (List.mem_append_right _ (List.mem_append_right _ (List.mem_append_right _ (List.mem_append_right _ (List.mem_append_right _ (List.mem_append_right _ (List.mem_append_right _ (List.mem_append_right _ (List.mem_append_right _ (List.mem_append_right _ (List.mem_append_right _ (List.mem_append_right _ (List.mem_append_right _ (List.mem_append_right _ (List.mem_append_right _ (List.mem_append_left _ h)))))))))))))))))))))))))
theorem inr17 : ∀ w ∈ wsL_law_r17, w ∈ wsL_law := fun _ h => List.mem_append_left _ (List.mem_append_left _ (List.mem_append_left _ (List.mem_append_left _ (List.mem_append_left _ (List.mem_append_left _ (List.mem_append_left _ (List.mem_append_left _ (List.mem_append_left _ (List.mem_append_left _ (List.mem_append_right _ (List.mem_append_right _ (List.mem_append_right _ (List.mem_append_right _ (List.mem_append_right _ (List.mem_append_right _ (List.mem_append_right _ (List.mem_append_right _ (List.mem_append_right _ (List.mem_append_right _ (List.mem_append_right _ (List.mem_append_right _ (List.mem_append_right _ (List.mem_append_right _ (List.mem_append_right _ (List.mem_append_right _ (List.mem_append_left _ h))))))))))))))))))))))))))
theorem inr18 : ∀ w ∈ wsL_law_r18, w ∈ wsL_law := fun _ h => List.mem_append_left _ (List.mem_append_left _ (List.mem_append_left _ (List.mem_append_left _ (List.mem_append_left _ (List.mem_append_left _ (List.mem_append_left _ (List.mem_append_left _ (List.mem_append_left _ (List.mem_append_left _ (List.mem_append_right _ (List.mem_append_right _ (List.mem_append_right _ (List.mem_append_right _ (List.mem_append_right _ (List.mem_append_right _ (List.mem_append_right _ (List.mem_append_right _ (List.mem_append_right _ (List.mem_append_right _ (List.mem_append_right _ (List.mem_append_right _ (List.mem_append_right _ (List.mem_append_right _ (List.mem_append_right _ (List.mem_append_right _ (List.mem_append_right _ (List.mem_append_left _ h)))))))))))))))))))))))))))
theorem inr19 : ∀ w ∈ wsL_law_r19, w ∈ wsL_law := fun _ h => List.mem_append_left _ (List.mem_append_left _ (List.mem_append_left _ (List.mem_append_left _ (List.mem_append_left _ (List.mem_append_left _ (List.mem_append_left _ (List.mem_append_left _ (List.mem_append_left _ (List.mem_append_left _ (List.mem_append_right _ (List.mem_append_right _ (List.mem_append_right _ (List.mem_append_right _ (List.mem_append_right _ (List.mem_append_right _ (List.mem_append_right _ (List.mem_append_right _ (List.mem_append_right _ (List.mem_append_right _ (List.mem_append_right _ (List.mem_append_right _ (List.mem_append_right _ (List.mem_append_right _ (List.mem_append_right _ (List.mem_append_right _ (List.mem_append_right _ (List.mem_append_right _ (List.mem_append_left _ h))))))))))))))))))))))))))))
theorem inr20 : ∀ w ∈ wsL_law_r20, w ∈ wsL_law := fun _ h => List.mem_append_left _ (List.mem_append_left _ (List.mem_append_left _ (List.mem_append_left _ (List.mem_append_left _ (List.mem_append_left _ (List.mem_append_left _ (List.mem_append_left _ (List.mem_append_left _ (List.mem_append_left _ (List.mem_append_right _ (List.mem_append_right _ (List.mem_append_right _ (List.mem_append_right _ (List.mem_append_right _ (List.mem_append_right _ (List.mem_append_right _ (List.mem_append_right _ (List.mem_append_right _ (List.mem_append_right _ (List.mem_append_right _ (List.mem_append_right _ (List.mem_append_right _ (List.mem_append_right _ (List.mem_append_right _ (List.mem_append_right _ (List.mem_append_right _ (List.mem_append_right _ (List.mem_append_right _ (List.mem_append_left _ h)))))))))))))))))))))))))))))
theorem inr21 : ∀ w ∈ wsL_law_r21, w ∈ wsL_law := fun _ h => List.mem_append_left _ (List.mem_append_left _ (List.mem_append_left _ (List.mem_append_left _ (List.mem_append_left _ (List.mem_append_left _ (List.mem_append_left _ (List.mem_append_left _ (List.mem_append_left _ (List.mem_append_left _ (List.mem_append_right _ (List.mem_append_right _ (List.mem_append_right _ (List.mem_append_right _ (List.mem_append_right _ (List.mem_append_right _ (List.mem_append_right _ (List.mem_append_right _ (List.mem_append_right _ (List.mem_append_right _ (List.mem_append_right _ (List.mem_append_right _ (List.mem_append_right _ (List.mem_append_right _ (List.mem_append_right _ (List.mem_append_right _ (List.mem_append_right _ (List.mem_append_right _ (List.mem_append_right _ (List.mem_append_right _ (List.mem_append_left _ h))))))))))))))))))))))))))))))
theorem inr22 : ∀ w ∈ wsL_law_r22, w ∈ wsL_law := fun _ h => List.mem_append_left _ (List.mem_append_left _ (List.mem_append_left _ (List.mem_append_left _ (List.mem_append_left _ (List.mem_append_left _ (List.mem_append_left _ (List.mem_append_left _ (List.mem_append_left _ (List.mem_append_left _ (List.mem_append_right _ (List.mem_append_right _ (List.mem_append_right _ (List.mem_append_right _ (List.mem_append_right _ (List.mem_append_right _ (List.mem_append_right _ (List.mem_append_right _ (List.mem_append_right _ (List.mem_append_right _ (List.mem_append_right _ (List.mem_append_right _ (List.mem_append_right _ (List.mem_append_right _ (List.mem_append_right _ (List.mem_append_right _ (List.mem_append_right _ (List.mem_append_right _ (List.mem_append_right _ (List.mem_append_right _ (List.mem_append_right _ (List.mem_append_left _ h)))))))))))))))))))))))))))))))
theorem inr23 : ∀ w ∈ wsL_law_r23, w ∈ wsL_law := fun _ h => List.mem_append_left _ (List.mem_append_left _ (List.mem_append_left _ (List.mem_append_left _ (List.mem_append_left _ (List.mem_append_left _ (List.mem_append_left _ (List.mem_append_left _ (List.mem_append_left _ (List.mem_append_left _ (List.mem_append_right _ (List.mem_append_right _ (List.mem_append_right _ (List.mem_append_right _ (List.mem_append_right _ (List.mem_append_right _ (List.mem_append_right _ (List.mem_append_right _ (List.mem_append_right _ (List.mem_append_right _ (List.mem_append_right _ (List.mem_append_right _ (List.mem_append_right _ (List.mem_append_right _ (List.mem_append_right _ (List.mem_append_right _ (List.mem_append_right _ (List.mem_append_right _ (List.mem_append_right _ (List.mem_append_right _ (List.mem_append_right _ (List.mem_append_right _ (List.mem_append_left _ h))))))))))))))))))))))))))))))))
theorem inr24 : ∀ w ∈ wsL_law_r24, w ∈ wsL_law := fun _ h => List.mem_append_left _ (List.mem_append_left _ (List.mem_append_left _ (List.mem_append_left _ (List.mem_append_left _ (List.mem_append_left _ (List.mem_append_left _ (List.mem_append_left _ (List.mem_append_left _ (List.mem_append_left _ (List.mem_append_right _ (List.mem_append_right _ (List.mem_append_right _ (List.mem_append_right _ (List.mem_append_right _ (List.mem_append_right _ (List.mem_append_right _ (List.mem_append_right _ (List.mem_append_right _ (List.mem_append_right _ (List.mem_append_right _ (List.mem_append_right _ (List.mem_append_right _ (List.mem_append_right _ (List.mem_append_right _ (List.mem_append_right _ (List.mem_append_right _ (List.mem_append_right _ (List.mem_append_right _ (List.mem_append_right _ (List.mem_append_right _ (List.mem_append_right _ (List.mem_append_right _ (List.mem_append_left _ h)))))))))))))))))))))))))))))))))
theorem inr25 : ∀ w ∈ wsL_law_r25, w ∈ wsL_law := fun _ h => List.mem_append_left _ (List.mem_append_left _ (List.mem_append_left _ (List.mem_append_left _ (List.mem_append_left _ (List.mem_append_left _ (List.mem_append_left _ (List.mem_append_left _ (List.mem_append_left _ (List.mem_append_left _ (List.mem_append_right _ (List.mem_append_right _ (List.mem_append_right _ (List.mem_append_right _ (List.mem_append_right _ (List.mem_append_right _ (List.mem_append_right _ (List.mem_append_right _ (List.mem_append_right _ (List.mem_append_right _ (List.mem_append_right _ (List.mem_append_right _ (List.mem_append_right _ (List.mem_append_right _ (List.mem_append_right _ (List.mem_append_right _ (List.mem_append_right _ (List.mem_append_right _ (List.mem_append_right _ (List.mem_append_right _ (List.mem_append_right _ (List.mem_append_right _ (List.mem_append_right _ (List.mem_append_right _ (List.mem_append_left _ h))))))))))))))))))))))))))))))))))
theorem inr26 : ∀ w ∈ wsL_law_r26, w ∈ wsL_law := fun _ h => List.mem_append_left _ (List.mem_append_left _ (List.mem_append_left _ (List.mem_append_left _ (List.mem_append_left _ (List.mem_append_left _ (List.mem_append_left _ (List.mem_append_left _ (List.mem_append_left _ (List.mem_append_left _ (List.mem_append_right _ (List.mem_append_right _ (List.mem_append_right _ (List.mem_append_right _ (List.mem_append_right _ (List.mem_append_right _ (List.mem_append_right _ (List.mem_append_right _ (List.mem_append_right _ (List.mem_append_right _ (List.mem_append_right _ (List.mem_append_right _ (List.mem_append_right _ (List.mem_append_right _ (List.mem_append_right _ (List.mem_append_right _ (List.mem_append_right _ (List.mem_append_right _ (List.mem_append_right _ (List.mem_append_right _ (List.mem_append_right _ (List.mem_append_right _ (List.mem_append_right _ (List.mem_append_right _ (List.mem_append_right _ (List.mem_append_left _ h)))))))))))))))))))))))))))))))))))
theorem inr27 : ∀ w ∈ wsL_law_r27, w ∈ wsL_law := fun _ h => List.mem_append_left _ (List.mem_append_left _ (List.mem_append_left _ (List.mem_append_left _ (List.mem_append_left _ (List.mem_append_left _ (List.mem_append_left _ (List.mem_append_left _ (List.mem_append_left _ (List.mem_append_left _ (List.mem_append_right _ (List.mem_append_right _ (List.mem_append_right _ (List.mem_append_right _ (List.mem_append_right _ (List.mem_append_right _ (List.mem_append_right _ (List.mem_append_right _ (List.mem_append_right _ (List.mem_append_right _ (List.mem_append_right _ (List.mem_append_right _ (List.mem_append_right _ (List.mem_append_right _ (List.mem_append_right _ (List.mem_append_right _ (List.mem_append_right _ (List.mem_append_right _ (List.mem_append_right _ (List.mem_append_right _ (List.mem_append_right _ (List.mem_append_right _ (List.mem_append_right _ (List.mem_append_right _ (List.mem_append_right _ (List.mem_append_right _ (List.mem_append_left _ h))))))))))))))))))))))))))))))))))))
theorem inr28 : ∀ w ∈ wsL_law_r28, w ∈ wsL_law := fun _ h => List.mem_append_left _ (List.mem_append_left _ (List.mem_append_left _ (List.mem_append_left _ (List.mem_append_left _ (List.mem_append_left _ (List.mem_append_left _ (List.mem_append_left _ (List.mem_append_left _ (List.mem_append_left _ (List.mem_append_right _ (List.mem_append_right _ (List.mem_append_right _ (List.mem_append_right _ (List.mem_append_right _ (List.mem_append_right _ (List.mem_append_right _ (List.mem_append_right _ (List.mem_append_right _ (List.mem_append_right _ (List.mem_append_right _ (List.mem_append_right _ (List.mem_append_right _ (List.mem_append_right _ (List.mem_append_right _ (List.mem_append_right _ (List.mem_append_right _ (List.mem_append_right _ (List.mem_append_right _ (List.mem_append_right _ (List.mem_append_right _ (List.mem_append_right _ (List.mem_append_right _ (List.mem_append_right _ (List.mem_append_right _ (List.mem_append_right _ (List.mem_append_right _ (List.mem_append_left _ h)))))))))))))))))))))))))))))))))))))
theorem inr29 : ∀ w ∈ wsL_law_r29, w ∈ wsL_law := fun _ h => List.mem_append_left _ (List.mem_append_left _ (List.mem_append_left _ (List.mem_append_left _ (List.mem_append_left _ (List.mem_append_left _ (List.mem_append_left _ (List.mem_append_left _ (List.mem_append_left _ (List.mem_append_left _ (List.mem_append_right _ (List.mem_append_right _ (List.mem_append_right _ (List.mem_append_right _ (List.mem_append_right _ (List.mem_append_right _ (List.mem_append_right _ (List.mem_append_right _ (List.mem_append_right _ (List.mem_append_right _ (List.mem_append_right _ (List.mem_append_right _ (List.mem_append_right _ (List.mem_append_right _ (List.mem_append_right _ (List.mem_append_right _ (List.mem_append_right _ (List.mem_append_right _ (List.mem_append_right _ (List.mem_append_right _ (List.mem_append_right _ (List.mem_append_right _ (List.mem_append_right _ (List.mem_append_right _ (List.mem_append_right _ (List.mem_append_right _ (List.mem_append_right _ (List.mem_append_right _ (List.mem_append_left _ h))))))))))))))))))))))))))))))))))))))
theorem inr30 : ∀ w ∈ wsL_law_r30, w ∈ wsL_law := fun _ h => List.mem_append_left _ (List.mem_append_left _ (List.mem_append_left _ (List.mem_append_left _ (List.mem_append_left _ (List.mem_append_left _ (List.mem_append_left _ (List.mem_append_left _ (List.mem_append_left _ (List.mem_append_left _ (List.mem_append_right _ (List.mem_append_right _ (List.mem_append_right _ (List.mem_append_right _ (List.mem_append_right _ (List.mem_append_right _ (List.mem_append_right _ (List.mem_append_right _ (List.mem_append_right _ (List.mem_append_right _ (List.mem_append_right _ (List.mem_append_right _ (List.mem_append_right _ (List.mem_append_right _ (List.mem_append_right _ (List.mem_append_right _ (List.mem_append_right _ (List.mem_append_right _ (List.mem_append_right _ (List.mem_append_right _ (List.mem_append_right _ (List.mem_append_right _ (List.mem_append_right _ (List.mem_append_right _ (List.mem_append_right _ (List.mem_append_right _ (List.mem_append_right _ (List.mem_append_right _ (List.mem_append_right _ (List.mem_append_left _ h)))))))))))))))))))))))))))))))))))))))
theorem inr31 : ∀ w ∈ wsL_law_r31, w ∈ wsL_law := fun _ h => List.mem_append_left _ (List.mem_append_left _ (List.mem_append_left _ (List.mem_append_left _ (List.mem_append_left _ (List.mem_append_left _ (List.mem_append_left _ (List.mem_append_left _ (List.mem_append_left _ (List.mem_append_left _ (List.mem_append_right _ (List.mem_append_right _ (List.mem_append_right _ (List.mem_append_right _ (List.mem_append_right _ (List.mem_append_right _ (List.mem_append_right _ (List.mem_append_right _ (List.mem_append_right _ (List.mem_append_right _ (List.mem_append_right _ (List.mem_append_right _ (List.mem_append_right _ (List.mem_append_right _ (List.mem_append_right _ (List.mem_append_right _ (List.mem_append_right _ (List.mem_append_right _ (List.mem_append_right _ (List.mem_append_right _ (List.mem_append_right _ (List.mem_append_right _ (List.mem_append_right _ (List.mem_append_right _ (List.mem_append_right _ (List.mem_append_right _ (List.mem_append_right _ (List.mem_append_right _ (List.mem_append_right _ (List.mem_append_right _ (List.mem_append_left _ h))))))))))))))))))))))))))))))))))))))))
theorem inr32 : ∀ w ∈ wsL_law_r32, w ∈ wsL_law := fun _ h => List.mem_append_left _ (List.mem_append_left _ (List.mem_append_left _ (List.mem_append_left _ (List.mem_append_left _ (List.mem_append_left _ (List.mem_append_left _ (List.mem_append_left _ (List.mem_append_left _ (List.mem_append_left _ (List.mem_append_right _ (List.mem_append_right _ (List.mem_append_right _ (List.mem_append_right _ (List.mem_append_right _ (List.mem_append_right _ (List.mem_append_right _ (List.mem_append_right _ (List.mem_append_right _ (List.mem_append_right _ (List.mem_append_right _ (List.mem_append_right _ (List.mem_append_right _ (List.mem_append_right _ (List.mem_append_right _ (List.mem_append_right _ (List.mem_append_right _ (List.mem_append_right _ (List.mem_append_right _ (List.mem_append_right _ (List.mem_append_right _ (List.mem_append_right _ (List.mem_append_right _ (List.mem_append_right _ (List.mem_append_right _ (List.mem_append_right _ (List.mem_append_right _ (List.mem_append_right _ (List.mem_append_right _ (List.mem_append_right _ (List.mem_append_right _ (List.mem_append_left _ h)))))))))))))))))))))))))))))))))))))))))
theorem inr33 : ∀ w ∈ wsL_law_r33, w ∈ wsL_law := fun _ h => List.mem_append_left _ (List.mem_append_left _ (List.mem_append_left _ (List.mem_append_left _ (List.mem_append_left _ (List.mem_append_left _ (List.mem_append_left _ (List.mem_append_left _ (List.mem_append_left _ (List.mem_append_left _ (List.mem_append_right _ (List.mem_append_right _ (List.mem_append_right _ (List.mem_append_right _ (List.mem_append_right _ (List.mem_append_right _ (List.mem_append_right _ (List.mem_append_right _ (List.mem_append_right _ (List.mem_append_right _ (List.mem_append_right _ (List.mem_append_right _ (List.mem_append_right _ (List.mem_append_right _ (List.mem_append_right _ (List.mem_append_right _ (List.mem_append_right _ (List.mem_append_right _ (List.mem_append_right _ (List.mem_append_right _ (List.mem_append_right _ (List.mem_append_right _ (List.mem_append_right _ (List.mem_append_right _ (List.mem_append_right _ (List.mem_append_right _ (List.mem_append_right _ (List.mem_append_right _ (List.mem_append_right _ (List.mem_append_right _ (List.mem_append_right _ (List.mem_append_right _ (h))))))))))))))))))))))))))))))))))))))))))
/-! ===== base: one bundle of what a walk needs; contracts as functions from cells to cells ===== -/
abbrev zE : Type := va_G × (ClassId × ClassId) × (Nat × Nat × Nat × Nat × Option Nat)
def zNests : List (String × Nat × MethodName × String) := [(RX7, 9, yX2_init, RX7), (RX7, 18, yX6_init, RX7), (RX7, 25, yX0_init, RX7), (RX0, 11, yX1_init, RX7), (RX7, 47, yX5_init, RX7), (RX3, 11, yX0_init, RX7), (RX2, 22, yX7_setCell, RX7), (RX6, 25, yX7_setCell, RX7), (RX2, 26, yX7_cell, RX7), (RX2, 34, yX7_within, RX7), (RX6, 35, yX7_cell, RX7), (RX4, 43, yX7_cell, RX7), (RX4, 47, yX7_setCell, RX7), (RX1, 27, yX7_setCell, RX7), (RX0, 40, yX7_setCell, RX7), (RX1, 31, yX7_cell, RX7), (RX0, 47, yX7_cell, RX7), (RX5, 25, yX7_setCell, RX7), (RX5, 29, yX7_cell, RX7)]
def zFNests : List (String × Nat × String × String × String × String) := [(RX1, 44, "HedgeDuel", "BOUND", "[I", RX7), (RX1, 55, "HedgeDuel", "GROWTH", "[I", RX7)]
def zTxt : String := "l10;h0,0,3,25;h1,4,5,30;s0,2;s1,3;s5,8;s6,9;s7,8;s11,2;w9;d6;d7;r2;"
def zTb : List Int32 := [108, 49, 48, 59, 104, 48, 44, 48, 44, 51, 44, 50, 53, 59, 104, 49, 44, 52, 44, 53, 44, 51, 48, 59, 115, 48, 44, 50, 59, 115, 49, 44, 51, 59, 115, 53, 44, 56, 59, 115, 54, 44, 57, 59, 115, 55, 44, 56, 59, 115, 49, 49, 44, 50, 59, 119, 57, 59, 100, 54, 59, 100, 55, 59, 114, 50, 59]
/-- the class's first text stands at k, its bytes at w; the JDK's formatter at f -/
abbrev zEk (E : zE) : Nat := E.2.2.2.2.1
abbrev zEw (E : zE) : Nat := E.2.2.2.2.2.1
/-- the JDK's formatter, or none -/
def zFv (o : Option Nat) : Value := match o with | none => .null | some f => .ref f
abbrev zEf (E : zE) : Option Nat := E.2.2.2.2.2.2
def zN (E : zE) (U : State) : Prop := (∀ q ∈ zNests, va_Nw (.methodLinkNest q.1 q.2.1 q.2.2.1 q.2.2.2) U) ∧ (∀ q ∈ zFNests, va_Nw (.fieldLinkNest q.1 q.2.1 q.2.2.1 q.2.2.2.1 q.2.2.2.2.1 q.2.2.2.2.2) U) ∧ vk_R RX7 61 zTxt (zEk E) U
theorem zN.warm {E : zE} {s U : State} (hW : s.WarmedH U.vm) (h : zN E s) : zN E U := ⟨fun q hq => va_Nw.warmM hW (h.1 q hq), fun q hq => va_Nw.warmF hW (h.2.1 q hq), vk_R.warm hW h.2.2⟩
theorem zN.same {E : zE} {u U : State} (hv : u.vm = U.vm) (h : zN E u) : zN E U := ⟨fun q hq => va_Nw.same rfl hv (h.1 q hq), fun q hq => va_Nw.same rfl hv (h.2.1 q hq), vk_R.same hv.symm h.2.2⟩
abbrev zTys (E : zE) : List (ClassId × FieldType) := [(E.2.1.1, .int), (E.2.1.2, .byte)]
def zK (E : zE) (U : State) : Prop := va_K E.1 vwCl (zTys E) U ∧ zN E U
def zGrowth (j : Nat) : Int32 := match j with | 0 => 3 | 1 => 1 | 2 => 2 | 3 => 1 | _ => 2
def zBound (j : Nat) : Int32 := match j with | 0 => 24 | 1 => 40 | 2 => 30 | 3 => 10 | _ => 36
def zT0 (E : zE) (A : Nat → Prop) (U : State) (H : Heap) : Prop := (va_Z RX7 "GROWTH" "[I" (.ref E.2.2.1) A U H ∧ va_T .int E.2.2.1 5 (fun j => .int (zGrowth j)) A U H) ∧ va_Z RX7 "BOUND" "[I" (.ref E.2.2.2.1) A U H ∧ va_T .int E.2.2.2.1 5 (fun j => .int (zBound j)) A U H
def zSt (E : zE) (A : Nat → Prop) (U : State) (H : Heap) : Prop := vk_S 1 [67] [zTb] (fun _ => zEk E) (fun _ => zEw E) A U H ∧ va_Z "java/lang/String" "COMPACT_STRINGS" "Z" (.int 1) A U H ∧ va_Z "jdk/internal/util/Preconditions" "SIOOBE_FORMATTER" "Ljava/util/function/BiFunction;" (zFv (zEf E)) A U H
def zT (E : zE) (A : Nat → Prop) (U : State) (H : Heap) : Prop := zT0 E A U H ∧ zSt E A U H
theorem zT0.to {E : zE} {A B : Nat → Prop} {s U : State} {H : Heap} {locs : List Loc} (h : zT0 E A s s.heap) (hS : va_S A s.heap H locs) (hv : s.vm.Alike U.vm) (hB : ∀ q, B q → A q) : zT0 E B U H :=
  ⟨⟨((h.1.1.kept hS.2.1).narrow hB).moved hv, ((h.1.2.kept hS.2.1).narrow hB).moved hv⟩, ((h.2.1.kept hS.2.1).narrow hB).moved hv, ((h.2.2.kept hS.2.1).narrow hB).moved hv⟩
theorem zT0.same {E : zE} {A : Nat → Prop} {u U : State} {H : Heap} (hv : u.vm = U.vm) (h : zT0 E A u H) : zT0 E A U H := by
  have ha : u.vm.Alike U.vm := by rw [hv]; exact Vm.Alike.refl U.vm
  exact ⟨⟨h.1.1.moved ha, h.1.2.moved ha⟩, h.2.1.moved ha, h.2.2.moved ha⟩
theorem zT.to {E : zE} {A B : Nat → Prop} {s U : State} {H : Heap} {locs : List Loc} (h : zT E A s s.heap) (hS : va_S A s.heap H locs) (hv : s.vm.Alike U.vm) (hB : ∀ q, B q → A q) : zT E B U H :=
  ⟨zT0.to h.1 hS hv hB, ((h.2.1.kept hS.2.1).narrow hB).moved hv, ((h.2.2.1.kept hS.2.1).narrow hB).moved hv, ((h.2.2.2.kept hS.2.1).narrow hB).moved hv⟩
theorem zT.same {E : zE} {A : Nat → Prop} {u U : State} {H : Heap} (hv : u.vm = U.vm) (h : zT E A u H) : zT E A U H := by
  have ha : u.vm.Alike U.vm := by rw [hv]; exact Vm.Alike.refl U.vm
  exact ⟨zT0.same hv h.1, h.2.1.moved ha, h.2.2.1.moved ha, h.2.2.2.moved ha⟩
def zG (E : zE) (A : Nat → Prop) (H0 : Heap) (ws : va_W) (H : Heap) (locs : List Loc) : Prop := va_P E.1 vwCl ws H ∧ va_D A ws ∧ va_S A H0 H locs
def zC (E : zE) (p : Program) (s : State) (m : MethodId) (args : Array Value) (c : Code) (cc : ByteArray) (nL : Nat) (own : String) (A : Nat → Prop) : Prop := CallFix p m c cc nL s args wsL_law own ∧ zK E s ∧ zT E A s s.heap ∧ ∀ q, s.heap.size ≤ q → A q
/-- behind a method: its answer, its cells -/
def zO (E : zE) (A : Nat → Prop) (v : Option Value) (w1 : va_W) : Array Value → State → Outcome → State → Prop := fun _ st oc t => oc = .returned v ∧ va_P E.1 vwCl w1 t.heap ∧ va_F A st t
def zQ (E : zE) (A : Nat → Prop) (below : List Frame) (args : Array Value) (s : State) (v : Option Value) (w1 : va_W) : State → Prop := MQ below (zO E A v w1) args s 0 0 A
abbrev zR (fr lo : Nat) : Room := { frames := fr, cells := 0, slots := 0, locals := lo }
def zI (E : zE) (as : List Value) (wc : va_W) (sz : Nat) : Array Value → State → Prop := va_Pc as (fun U => U.heap.size = sz ∧ va_P E.1 vwCl wc U.heap ∧ zK E U ∧ va_D (fun _ => True) wc ∧ zT E (va_A wc sz) U U.heap)
/-- method y, on these values and these cells (nothing made): answers v, leaves w1 in their places -/
def HM (l : Launch) (E : zE) (y : MethodName) (cc : ByteArray) (nL : Nat) (ret : Option FieldType) (fr lo : Nat) (as : List Value) (wc : va_W) (v : Option Value) (w1 : va_W) : Prop :=
  ∀ sz : Nat, Met l y (Cond.code y cc nL ret :: wsL_law) (zR fr lo) (zI E as wc sz) (zO E (va_A wc sz) v w1) 0 0 (va_A wc sz)
theorem wsL_goodAll : wsL_law.all goodWord = true := by decide +kernel
theorem zGood {w : Cond} (h : w ∈ wsL_law) : GoodIn wsL_law (w :: wsL_law) := goodIn_sub (fun x hx => by
  rcases List.mem_cons.mp hx with rfl | hx
  · exact h
  · exact hx) (by rw [List.all_cons, wsL_goodAll, List.all_eq_true.mp wsL_goodAll _ h]; rfl)
theorem zI.blind {E : zE} {as : List Value} {wc : va_W} {sz : Nat} : FrameBlind (zI E as wc sz) := by
  intro a U g mk q
  obtain ⟨h1, h2, h3, h4, h5, h6⟩ := q
  exact ⟨h1, h2, h3, ⟨va_K.moved (u := U) (U := U.calling g mk a) (Vm.Alike.refl U.vm) h4.1, zN.same (u := U) rfl h4.2⟩, h5, zT.same (u := U) rfl h6⟩
/-- Met.ofW, also of a method of the JDK that has no row among the natives -/
theorem z_ofW {l : Launch} {y : MethodName} {ws ws' : List Cond} {rm : Room} {Pc : Array Value → State → Prop} {Qc : Array Value → State → Outcome → State → Prop} {mc ms : Nat} {free : Addr → Prop} {cc : ByteArray} {maxL : Nat} {ret : Option FieldType}
    (hy : plainFor y = true) (hw : ws = Cond.code y cc maxL ret :: ws')
    (body : ∀ p e s m args below meth c s₁, BodyLoose p l y (headSpec ws rm) cc maxL ret e s m args below meth c s₁ → c.maxLocals = maxL → Pc args s →
      W p l e (headSpec ws rm).room s m args below meth c s.heap [] 0 0 (MQ below Qc args s mc ms free) (entryFrame m args maxL)) : Met l y ws rm Pc Qc mc ms free := by
  refine MetFree.of_bodySF (code := cc) (maxLocals := maxL) (ret := ret) hy ?_ ?_
  · intro args s m h hn
    obtain ⟨meth, c, h1, h2, h3, h4, h5, h6, -, -⟩ := Cond.code_spec hn (atoms_spec (ws := ws) h _ (by rw [hw]; exact List.mem_cons_self))
    exact ⟨meth, c, h1, h2, h3, h4, h5, h6⟩
  · intro p e s m args below meth c s₁ B hml hP _
    have hh0 : s₁.heap = s.heap := by rw [B.state]; rfl
    obtain ⟨t, a1, o, b1, b2, b3⟩ := body p e s m args below meth c s₁ B hml hP s₁ hh0 (Stand.of_body B)
    exact ⟨t, o, a1, b1, b2, ⟨b3.1, b3.2⟩⟩
theorem HM.of {l : Launch} {E : zE} {y : MethodName} {cc : ByteArray} {nL : Nat} {ret : Option FieldType} {fr lo : Nat} {as : List Value} {wc : va_W} {v : Option Value} {w1 : va_W} {own : String} (hy : plainFor y = true) (hc : y.cls = own) (hlen : (lg_sl as).length ≤ nL)
    (body : ∀ (p : Program) (e : Env) (s : State) (m : MethodId) (args : Array Value) (below : List Frame) (meth : Method) (c : Code) (A : Nat → Prop) (ls : Array Slot) (H : Heap) (locs : List Loc) (Q : State → Prop), zC E p s m args c cc nL own A → meth.sig.returnType = ret → meth.locks = false → zG E A s.heap wc H locs → lv_has ls nL (lv_args 0 as) → Q = zQ E A below args s v w1 →
      W p l e (zR fr lo) s m args below meth c H locs 0 0 Q (F0 m 0 ls [])) : HM l E y cc nL ret fr lo as wc v w1 := by
  intro sz
  refine z_ofW (cc := cc) (maxL := nL) (ret := ret) hy rfl ?_
  intro p e s m args below meth c s₁ B hml hv
  obtain ⟨rfl, hsz, hP, hK, hD0, hT⟩ := hv
  subst hsz
  have hts : ∀ w ∈ wsL_law, w.before as.toArray s = true := fun w hw => atoms_spec (ws := Cond.code y cc nL ret :: wsL_law) B.pre w (List.mem_cons_of_mem _ hw)
  have hown : s.vm.findClass own = some m.cls := hc ▸ findClass_of_methodNamed B.named
  have hl := lv_entry as (n := nL) hlen
  rw [lg_entry_eq]
  exact body p e s m as.toArray below meth c (va_A wc s.heap.size) _ _ _ _ ⟨⟨B.exec, B.bytes, hml, hown, hts⟩, hK, hT, fun q h => Or.inr h⟩ B.returns B.notSynchronized ⟨hP, hD0.self, va_S.rf⟩ hl rfl
section Z1
variable {E : zE} {p : Program} {l : Launch} {e : Env} {R : Room} {s : State} {m : MethodId} {args : Array Value} {below : List Frame} {meth : Method} {c : Code} {H : Heap} {locs : List Loc} {cells slots : Nat} {Q : State → Prop}
variable {cc : ByteArray} {nL : Nat} {own : String} {A : Nat → Prop} {pc : Nat} {ls : Array Slot} {rest st0 : List Value} {ws w1 wc : va_W} {v : Option Value} {a : Nat} {H0 : Heap}
theorem z_iret (C : zC E p s m args c cc nL own A) {ty : FieldType} (hr : meth.sig.returnType = some ty) (hlk : meth.locks = false) (hG : zG E A s.heap ws H locs) {x : Int32} (hdg : decode cc pc = .ok (.ireturn, 1)) (hn : narrow ty (.int x) = .int x) (hv : some (Value.int x) = v) (hw : ws = w1) :
    W p l e R s m args below meth c H locs 0 0 (zQ E A below args s v w1) (F0 m pc ls [.int x]) :=
  W.zret C.1.1 C.1.2.1 hr hn (fun t ht _ => ⟨by rw [hv], by rw [ht, ← hw]; exact hG.1, hG.2.2.F ht⟩) hG.2.2.2.2 hdg hlk
theorem z_vret (C : zC E p s m args c cc nL own A) (hr : meth.sig.returnType = none) (hlk : meth.locks = false) (hG : zG E A s.heap ws H locs) (hdg : decode cc pc = .ok (.return_, 1)) (hv : (none : Option Value) = v) (hw : ws = w1) :
    W p l e R s m args below meth c H locs 0 0 (zQ E A below args s v w1) (F0 m pc ls []) :=
  W.vret C.1.1 C.1.2.1 hr (fun t ht _ => ⟨by rw [hv], by rw [ht, ← hw]; exact hG.1, hG.2.2.F ht⟩) hG.2.2.2.2 hdg hlk
theorem z_aret (C : zC E p s m args c cc nL own A) {rt : FieldType} (hr : meth.sig.returnType = some rt) (hrt : (∃ n, rt = .object n) ∨ ∃ t, rt = .array t) (hlk : meth.locks = false) (hG : zG E A s.heap ws H locs) {x : Nat} (hdg : decode cc pc = .ok (.areturn, 1)) (hv : some (Value.ref x) = v) (hw : ws = w1) :
    W p l e R s m args below meth c H locs 0 0 (zQ E A below args s v w1) (F0 m pc ls [.ref x]) :=
  W.aret C.1.1 C.1.2.1 hr hrt (Or.inr ⟨x, rfl⟩) (fun t ht _ => ⟨by rw [hv], by rw [ht, ← hw]; exact hG.1, hG.2.2.F ht⟩) hG.2.2.2.2 hdg hlk
theorem z_get (C : zC E p s m args c cc nL own A) {ref Cn : String} {T : u_T} {N ci index : Nat} (hin : ∀ w ∈ u_ws Cn T N, w ∈ wsL_law) (hc : vwCl[ci]? = some (Cn, T, N)) (k : Nat) (hk : k < N) (hlink : Cond.fieldLink own index ref (T k).2.1 (T k).2.2.1 ∈ wsL_law) (hsame : (T k).1 = ref) (hdg : decode cc pc = .ok (.getfield index, 3)) (hG : zG E A H0 ws H locs) (q0 : Nat) {fs : List Value} (he : ws[q0]? = some (a, .inr (ci, fs))) {v : Value} (hv : fs[k]? = some v)
    (kk : W p l e R s m args below meth c H locs cells slots Q (F0 m (pc + 3) ls (v :: rest))) : W p l e R s m args below meth c H locs cells slots Q (F0 m pc ls (.ref a :: rest)) :=
  va_get C.1.1 C.1.2.1 C.1.2.2.2.2 hin C.1.2.2.2.1 C.2.1.1 hG.1 q0 he hc k hk (C.1.2.2.2.2 _ hlink) (fun x h => by rw [← hsame]; exact h) hv hdg kk
theorem z_put (C : zC E p s m args c cc nL own A) {ref Cn : String} {T : u_T} {N ci index : Nat} (hin : ∀ w ∈ u_ws Cn T N, w ∈ wsL_law) (ty0 : Nat → FieldType) (hty : ∀ k, k < N → parseFieldDescriptor (T k).2.2.1 = some (ty0 k)) (hnm : ∀ a, a < N → ∀ b, b < N → a ≠ b → (T a).2.1 ≠ (T b).2.1) (hc : vwCl[ci]? = some (Cn, T, N)) (k : Nat) (hk : k < N) (hlink : Cond.fieldLink own index ref (T k).2.1 (T k).2.2.1 ∈ wsL_law) (hsame : (T k).1 = ref) (hfin : (T k).2.2.2 = false) {ty : FieldType} (hd : parseFieldDescriptor (T k).2.2.1 = some ty) (hdg : decode cc pc = .ok (.putfield index, 3)) {v : Value} (hn : narrow ty v = v) (hfit : fits ty v = true) (hG : zG E A H0 ws H locs) (q0 : Nat) {fs : List Value} (he : ws[q0]? = some (a, .inr (ci, fs))) (hl : k < fs.length) {ws' : va_W} (hw : ws.set q0 (a, .inr (ci, fs.set k v)) = ws')
    (kk : ∀ (H1 : Heap) (locs1 : List Loc), zG E A H0 ws' H1 locs1 → W p l e R s m args below meth c H1 locs1 cells slots Q (F0 m (pc + 3) ls rest)) : W p l e R s m args below meth c H locs cells slots Q (F0 m pc ls (v :: .ref a :: rest)) :=
  va_put C.1.1 C.1.2.1 C.1.2.2.2.2 hin ty0 hty hnm C.1.2.2.2.1 C.2.1.1 hG.1 hG.2.1 hG.2.2 q0 he hc k hk (C.1.2.2.2.2 _ hlink) (fun x h => by rw [← hsame]; exact h) hfin hd hn hfit hl hdg (fun H1 locs1 h1 h2 h3 => kk H1 locs1 (hw ▸ ⟨h1, h2, h3⟩))
theorem z_putF (C : zC E p s m args c cc nL own A) {ref Cn : String} {T : u_T} {N ci index : Nat} (hin : ∀ w ∈ u_ws Cn T N, w ∈ wsL_law) (ty0 : Nat → FieldType) (hty : ∀ k, k < N → parseFieldDescriptor (T k).2.2.1 = some (ty0 k)) (hnm : ∀ a, a < N → ∀ b, b < N → a ≠ b → (T a).2.1 ≠ (T b).2.1) (hc : vwCl[ci]? = some (Cn, T, N)) (k : Nat) (hk : k < N) (hlink : Cond.fieldLink own index ref (T k).2.1 (T k).2.2.1 ∈ wsL_law) (hsame : (T k).1 = ref) (hfin : (T k).2.2.2 = true) (hdecl : (T k).1 = own) {ty : FieldType} (hd : parseFieldDescriptor (T k).2.2.1 = some ty) (hdg : decode cc pc = .ok (.putfield index, 3)) {v : Value} (hn : narrow ty v = v) (hfit : fits ty v = true) (hin2 : meth.name = "<init>") (hG : zG E A H0 ws H locs) (q0 : Nat) {fs : List Value} (he : ws[q0]? = some (a, .inr (ci, fs))) (hl : k < fs.length) {ws' : va_W} (hw : ws.set q0 (a, .inr (ci, fs.set k v)) = ws')
    (kk : ∀ (H1 : Heap) (locs1 : List Loc), zG E A H0 ws' H1 locs1 → W p l e R s m args below meth c H1 locs1 cells slots Q (F0 m (pc + 3) ls rest)) : W p l e R s m args below meth c H locs cells slots Q (F0 m pc ls (v :: .ref a :: rest)) :=
  va_putF C.1.1 C.1.2.1 C.1.2.2.2.2 hin ty0 hty hnm C.1.2.2.2.1 C.2.1.1 hG.1 hG.2.1 hG.2.2 q0 he hc k hk (C.1.2.2.2.2 _ hlink) (fun x h => by rw [← hsame]; exact h) hfin hin2 hdecl hd hn hfit hl hdg (fun H1 locs1 h1 h2 h3 => kk H1 locs1 (hw ▸ ⟨h1, h2, h3⟩))
theorem z_iald (C : zC E p s m args c cc nL own A) (hdg : decode cc pc = .ok (.iaload, 1)) (hG : zG E A H0 ws H locs) (q0 : Nat) {n : Nat} {f : Nat → Int32} (ha : ws[q0]? = some (a, .inl (E.2.1.1, n, .inl f))) {i : Int32} (hin : vp_in i n)
    (kk : W p l e R s m args below meth c H locs cells slots Q (F0 m (pc + 1) ls (.int (f i.toNatClampNeg) :: rest))) : W p l e R s m args below meth c H locs cells slots Q (F0 m pc ls (.int i :: .ref a :: rest)) :=
  va_iald C.1.1 C.1.2.1 C.2.1.1 hG.1 q0 0 ha rfl hin hdg kk
theorem z_bald (C : zC E p s m args c cc nL own A) (hdg : decode cc pc = .ok (.baload, 1)) (hG : zG E A H0 ws H locs) (q0 : Nat) {n : Nat} {f : Nat → Int32} (ha : ws[q0]? = some (a, .inl (E.2.1.2, n, .inl f))) {i : Int32} (hin : vp_in i n)
    (kk : W p l e R s m args below meth c H locs cells slots Q (F0 m (pc + 1) ls (.int (f i.toNatClampNeg) :: rest))) : W p l e R s m args below meth c H locs cells slots Q (F0 m pc ls (.int i :: .ref a :: rest)) :=
  va_bald C.1.1 C.1.2.1 C.2.1.1 hG.1 q0 1 ha rfl hin hdg kk
theorem z_iast (C : zC E p s m args c cc nL own A) (hdg : decode cc pc = .ok (.iastore, 1)) (hG : zG E A H0 ws H locs) (q0 : Nat) {n : Nat} {f : Nat → Int32} (ha : ws[q0]? = some (a, .inl (E.2.1.1, n, .inl f))) {i x : Int32} (hin : vp_in i n) {ws' : va_W} (hw : ws.set q0 (a, .inl (E.2.1.1, n, .inl (upd f i.toNatClampNeg x))) = ws')
    (kk : ∀ (H1 : Heap) (locs1 : List Loc), zG E A H0 ws' H1 locs1 → W p l e R s m args below meth c H1 locs1 cells slots Q (F0 m (pc + 1) ls rest)) : W p l e R s m args below meth c H locs cells slots Q (F0 m pc ls (.int x :: .int i :: .ref a :: rest)) :=
  va_iast C.1.1 C.1.2.1 C.2.1.1 hG.1 hG.2.1 hG.2.2 q0 0 ha rfl hin hdg (fun H1 locs1 h1 h2 h3 => kk H1 locs1 (hw ▸ ⟨h1, h2, h3⟩))
theorem z_bast (C : zC E p s m args c cc nL own A) (hdg : decode cc pc = .ok (.bastore, 1)) (hG : zG E A H0 ws H locs) (q0 : Nat) {n : Nat} {f : Nat → Int32} (ha : ws[q0]? = some (a, .inl (E.2.1.2, n, .inl f))) {i x : Int32} (hin : vp_in i n) {ws' : va_W} (hw : ws.set q0 (a, .inl (E.2.1.2, n, .inl (upd f i.toNatClampNeg (vp_nar .byte x)))) = ws')
    (kk : ∀ (H1 : Heap) (locs1 : List Loc), zG E A H0 ws' H1 locs1 → W p l e R s m args below meth c H1 locs1 cells slots Q (F0 m (pc + 1) ls rest)) : W p l e R s m args below meth c H locs cells slots Q (F0 m pc ls (.int x :: .int i :: .ref a :: rest)) :=
  va_bast C.1.1 C.1.2.1 C.2.1.1 hG.1 hG.2.1 hG.2.2 q0 1 ha rfl hin hdg (fun H1 locs1 h1 h2 h3 => kk H1 locs1 (hw ▸ ⟨h1, h2, h3⟩))
theorem z_alen (C : zC E p s m args c cc nL own A) (hdg : decode cc pc = .ok (.arraylength, 1)) (hG : zG E A H0 ws H locs) (q0 : Nat) {x : vp_A} (ha : ws[q0]? = some (a, .inl (E.2.1.1, x))) {v : Int32} (hv : Int32.ofNat x.1 = v)
    (kk : W p l e R s m args below meth c H locs cells slots Q (F0 m (pc + 1) ls (.int v :: rest))) : W p l e R s m args below meth c H locs cells slots Q (F0 m pc ls (.ref a :: rest)) :=
  va_alen C.1.1 C.1.2.1 C.2.1.1 hG.1 q0 0 ha rfl hv hdg kk
theorem z_mmax (C : zC E p s m args c cc nL own A) {index : Nat} (hlink : Cond.methodLink own index Lib.Math.max.name ∈ wsL_law) (hdg : decode cc pc = .ok (.invokestatic index, 3)) {fr lo : Nat} {lv : List (Nat × Value)} (hl : lv_has ls nL lv) (hframes : 1 ≤ fr) (hlocals : (rest.map fun v => v.category).sum + 13 ≤ lo) {x y : Int32}
    (kk : W p l e (zR fr lo) s m args below meth c H locs 0 0 Q (F0 m (pc + 3) ls (.int (if x < y then y else x) :: rest))) : W p l e (zR fr lo) s m args below meth c H locs 0 0 Q (F0 m pc ls (.int y :: .int x :: rest)) :=
  va_mmax C.1.1 C.1.2.1 (by rw [hl.1]; exact C.1.2.2.1) C.1.2.2.2.1 (C.1.2.2.2.2 _ hlink) (C.1.2.2.2.2 _ (by exact (inr3 _ (List.mem_of_getElem? (i := 22) rfl)))) (C.1.2.2.2.2 _ (by exact (inr3 _ (List.mem_of_getElem? (i := 19) rfl)))) (C.1.2.2.2.2 _ (by exact (inr3 _ (List.mem_of_getElem? (i := 23) rfl)))) hframes hlocals (Nat.le_refl 0) (Nat.le_refl 0) hdg kk
theorem z_mmin (C : zC E p s m args c cc nL own A) {index : Nat} (hlink : Cond.methodLink own index Lib.Math.min.name ∈ wsL_law) (hdg : decode cc pc = .ok (.invokestatic index, 3)) {fr lo : Nat} {lv : List (Nat × Value)} (hl : lv_has ls nL lv) (hframes : 1 ≤ fr) (hlocals : (rest.map fun v => v.category).sum + 13 ≤ lo) {x y : Int32}
    (kk : W p l e (zR fr lo) s m args below meth c H locs 0 0 Q (F0 m (pc + 3) ls (.int (if y < x then y else x) :: rest))) : W p l e (zR fr lo) s m args below meth c H locs 0 0 Q (F0 m pc ls (.int y :: .int x :: rest)) :=
  va_mmin C.1.1 C.1.2.1 (by rw [hl.1]; exact C.1.2.2.1) C.1.2.2.2.1 (C.1.2.2.2.2 _ hlink) (C.1.2.2.2.2 _ (by exact (inr3 _ (List.mem_of_getElem? (i := 18) rfl)))) (C.1.2.2.2.2 _ (by exact (inr3 _ (List.mem_of_getElem? (i := 19) rfl)))) (C.1.2.2.2.2 _ (by exact (inr3 _ (List.mem_of_getElem? (i := 20) rfl)))) hframes hlocals (Nat.le_refl 0) (Nat.le_refl 0) hdg kk
theorem z_ti {x y : Int32} (h : x = y) (k : W p l e R s m args below meth c H locs cells slots Q (F0 m pc ls (.int y :: rest))) : W p l e R s m args below meth c H locs cells slots Q (F0 m pc ls (.int x :: rest)) := h ▸ k
theorem z_tl {x y : Int64} (h : x = y) (k : W p l e R s m args below meth c H locs cells slots Q (F0 m pc ls (.long y :: rest))) : W p l e R s m args below meth c H locs cells slots Q (F0 m pc ls (.long x :: rest)) := h ▸ k
theorem z_ild (C : zC E p s m args c cc nL own A) (hdg : decode cc pc = .ok (.iaload, 1)) (hG : zG E A H0 ws H locs) (q0 : Nat) {n : Nat} {f : Nat → Int32} (ha : ws[q0]? = some (a, .inl (E.2.1.1, n, .inl f))) {i : Int32} (j : Nat) (hi : i = nI j) (hj : j < n) (hn : n < 2 ^ 31)
    (kk : W p l e R s m args below meth c H locs cells slots Q (F0 m (pc + 1) ls (.int (f j) :: rest))) : W p l e R s m args below meth c H locs cells slots Q (F0 m pc ls (.int i :: .ref a :: rest)) := by
  subst hi
  refine z_iald C hdg hG q0 ha (vp_in_nI hj hn) ?_
  rw [nI_clamp (Nat.lt_trans hj hn)]
  exact kk
theorem z_bld (C : zC E p s m args c cc nL own A) (hdg : decode cc pc = .ok (.baload, 1)) (hG : zG E A H0 ws H locs) (q0 : Nat) {n : Nat} {f : Nat → Int32} (ha : ws[q0]? = some (a, .inl (E.2.1.2, n, .inl f))) {i : Int32} (j : Nat) (hi : i = nI j) (hj : j < n) (hn : n < 2 ^ 31)
    (kk : W p l e R s m args below meth c H locs cells slots Q (F0 m (pc + 1) ls (.int (f j) :: rest))) : W p l e R s m args below meth c H locs cells slots Q (F0 m pc ls (.int i :: .ref a :: rest)) := by
  subst hi
  refine z_bald C hdg hG q0 ha (vp_in_nI hj hn) ?_
  rw [nI_clamp (Nat.lt_trans hj hn)]
  exact kk
theorem z_ist (C : zC E p s m args c cc nL own A) (hdg : decode cc pc = .ok (.iastore, 1)) (hG : zG E A H0 ws H locs) (q0 : Nat) {n : Nat} {f : Nat → Int32} (ha : ws[q0]? = some (a, .inl (E.2.1.1, n, .inl f))) {i x : Int32} (j : Nat) (hi : i = nI j) (hj : j < n) (hn : n < 2 ^ 31) {ws' : va_W} (hw : ws.set q0 (a, .inl (E.2.1.1, n, .inl (upd f j x))) = ws')
    (kk : ∀ (H1 : Heap) (locs1 : List Loc), zG E A H0 ws' H1 locs1 → W p l e R s m args below meth c H1 locs1 cells slots Q (F0 m (pc + 1) ls rest)) : W p l e R s m args below meth c H locs cells slots Q (F0 m pc ls (.int x :: .int i :: .ref a :: rest)) := by
  subst hi
  refine z_iast C hdg hG q0 ha (vp_in_nI hj hn) ?_ kk
  rw [nI_clamp (Nat.lt_trans hj hn)]
  exact hw
theorem z_bst (C : zC E p s m args c cc nL own A) (hdg : decode cc pc = .ok (.bastore, 1)) (hG : zG E A H0 ws H locs) (q0 : Nat) {n : Nat} {f : Nat → Int32} (ha : ws[q0]? = some (a, .inl (E.2.1.2, n, .inl f))) {i x : Int32} (j : Nat) (hi : i = nI j) (hj : j < n) (hn : n < 2 ^ 31) {ws' : va_W} (hw : ws.set q0 (a, .inl (E.2.1.2, n, .inl (upd f j (vp_nar .byte x)))) = ws')
    (kk : ∀ (H1 : Heap) (locs1 : List Loc), zG E A H0 ws' H1 locs1 → W p l e R s m args below meth c H1 locs1 cells slots Q (F0 m (pc + 1) ls rest)) : W p l e R s m args below meth c H locs cells slots Q (F0 m pc ls (.int x :: .int i :: .ref a :: rest)) := by
  subst hi
  refine z_bast C hdg hG q0 ha (vp_in_nI hj hn) ?_ kk
  rw [nI_clamp (Nat.lt_trans hj hn)]
  exact hw
theorem z_table (C : zC E p s m args c cc nL own A) {dflt lo hi : Int} {offs : Array Int} {len : Nat} {x : Int32} {tgt : Nat} (hdg : decode cc pc = .ok (.tableswitch dflt lo hi offs, len)) (sp : List Nat) (hall : (List.range (hi - lo + 1).toNat).all (fun i => sp.contains i || offs[i]? == some dflt) = true) (hx : ∀ i ∈ sp, x.toInt ≠ lo + i) (ht : (pc : Int) + dflt = (tgt : Int))
    (k : W p l e R s m args below meth c H locs cells slots Q (F0 m tgt ls rest)) : W p l e R s m args below meth c H locs cells slots Q (F0 m pc ls (.int x :: rest)) := by
  by_cases h1 : x.toInt < lo
  · exact lv_tableOut C.1.1 C.1.2.1 hdg (Or.inl h1) ht k
  by_cases h2 : hi < x.toInt
  · exact lv_tableOut C.1.1 C.1.2.1 hdg (Or.inr h2) ht k
  have h3 := List.all_eq_true.mp hall (x.toInt - lo).toNat (List.mem_range.mpr (by omega))
  rw [Bool.or_eq_true] at h3
  rcases h3 with h3 | h3
  · exact absurd (show x.toInt = lo + ((x.toInt - lo).toNat : Int) by omega) (hx _ (by simpa using h3))
  · exact lv_tableIn C.1.1 C.1.2.1 hdg h1 h2 (by simpa using h3) ht k
theorem z_tne {x k : Int32} {z : Int} (h : ¬ x = k) (hk : k.toInt = z) : x.toInt ≠ z := fun e => h (Int32.toInt_inj.mp (e.trans hk.symm))
theorem z_gets (C : zC E p s m args c cc nL own A) (hG : zG E A s.heap ws H locs) {n : String} {v : Value} {index : Nat} {q : String × Nat × String × String × String × String} (hq : q ∈ zFNests) (h1 : q.1 = own ∧ q.2.1 = index ∧ q.2.2.1 = RX7 ∧ q.2.2.2.1 = n ∧ q.2.2.2.2.1 = "[I") (hZ : va_Z RX7 n "[I" v A s s.heap) (hdg : decode cc pc = .ok (.getstatic index, 3))
    (kk : W p l e R s m args below meth c H locs cells slots Q (F0 m (pc + 3) ls (v :: rest))) : W p l e R s m args below meth c H locs cells slots Q (F0 m pc ls rest) := by
  obtain ⟨e1, e2, e3, e4, e5⟩ := h1
  have hN := C.2.1.2.2.1 q hq
  rw [e1, e2, e3, e4, e5] at hN
  exact va_getsN C.1.1 C.1.2.1 hZ hG.2.2 C.1.2.2.2.1 (va_Nw.use rfl hN) (fun _ h => h) hdg kk
/-- a callee's cells put back in their places -/
def zrep : va_W → List Nat → va_W → va_W
  | ws, i :: is, x :: xs => zrep (ws.set i x) is xs
  | ws, [], _ => ws
  | ws, _ :: _, [] => ws
theorem zrep_get : ∀ (is : List Nat) (ws xs : va_W) (k : Nat) (q : Nat × va_E), is.length = xs.length → (zrep ws is xs)[k]? = some q → (∃ j : Nat, is[j]? = some k ∧ xs[j]? = some q) ∨ (k ∉ is ∧ ws[k]? = some q) := by
  intro is
  induction is with
  | nil => intro ws xs k q _ h; exact Or.inr ⟨by simp, by simpa [zrep] using h⟩
  | cons i is ih =>
    intro ws xs k q hl h
    cases xs with
    | nil => simp at hl
    | cons x xs =>
      simp only [zrep] at h
      rcases ih (ws.set i x) xs k q (by simpa using hl) h with ⟨j, h1, h2⟩ | ⟨h1, h2⟩
      · exact Or.inl ⟨j + 1, by simpa using h1, by simpa using h2⟩
      · by_cases hk : k = i
        · subst hk
          by_cases hl2 : k < ws.length
          · rw [List.getElem?_set_self hl2] at h2
            exact Or.inl ⟨0, by simp, by simpa using h2⟩
          · rw [List.getElem?_eq_none (by simpa using Nat.le_of_not_lt hl2)] at h2
            cases h2
        · rw [List.getElem?_set_ne (Ne.symm hk)] at h2
          exact Or.inr ⟨by simp [hk, h1], h2⟩
theorem zrep_adr : ∀ (is : List Nat) (ws xs : va_W), is.map (fun i => (ws.map Prod.fst)[i]?) = (xs.map Prod.fst).map some → (zrep ws is xs).map Prod.fst = ws.map Prod.fst := by
  intro is
  induction is with
  | nil => intro ws xs _; cases xs <;> rfl
  | cons i is ih =>
    intro ws xs h
    cases xs with
    | nil => rfl
    | cons x xs =>
      simp only [List.map_cons, List.cons.injEq] at h
      have hs : (ws.set i x).map Prod.fst = ws.map Prod.fst := by
        rw [List.map_set]
        apply List.ext_getElem?
        intro j
        by_cases hj : j = i
        · subst hj
          have hlt : j < (ws.map Prod.fst).length := (List.getElem?_eq_some_iff.mp h.1).1
          rw [List.getElem?_set_self hlt, h.1]
        · rw [List.getElem?_set_ne (Ne.symm hj)]
      simp only [zrep]
      rw [ih (ws.set i x) xs (by rw [hs]; exact h.2), hs]
theorem va_D.adr {A : Nat → Prop} {ws ws' : va_W} (h : va_D A ws) (he : ws'.map Prod.fst = ws.map Prod.fst) : va_D A ws' := by
  have key : ∀ (k : Nat) (q : Nat × va_E), ws'[k]? = some q → ∃ q0, ws[k]? = some q0 ∧ q0.1 = q.1 := by
    intro k q hk
    have h1 : (ws'.map Prod.fst)[k]? = some q.1 := by rw [List.getElem?_map, hk]; rfl
    rw [he, List.getElem?_map] at h1
    cases hq : ws[k]? with
    | none => rw [hq] at h1; cases h1
    | some q0 => rw [hq] at h1; exact ⟨q0, rfl, Option.some.inj h1⟩
  refine ⟨fun i j x y hi hj hxy => ?_, fun k q hk => ?_⟩
  · obtain ⟨x0, h1, h2⟩ := key i x hi
    obtain ⟨y0, h3, h4⟩ := key j y hj
    exact h.1 i j x0 y0 h1 h3 (h2.trans (hxy.trans h4.symm))
  · obtain ⟨q0, h1, h2⟩ := key k q hk
    rw [← h2]
    exact h.2 k q0 h1
/-- the callee's start, out of the caller's cells -/
theorem z_pre (C : zC E p s m args c cc nL own A) (hG : zG E A s.heap ws H locs) {As : List Value} (is : List Nat) (hn : va_nd is = true) (hC : is.map (fun i => ws[i]?) = wc.map some) : ∀ U : State, U.heap = H → s.WarmedH U.vm → zI E As wc H.size As.toArray U := by
  intro U hU hW
  have hP : va_P E.1 vwCl wc H := by
    intro k q hk
    have h1 : (is.map (fun i => ws[i]?))[k]? = some (some q) := by rw [hC, List.getElem?_map, hk]; rfl
    rw [List.getElem?_map] at h1
    cases hi : is[k]? with
    | none => rw [hi] at h1; cases h1
    | some i => rw [hi] at h1; exact hG.1 i q (Option.some.inj h1)
  exact ⟨rfl, by rw [hU], by rw [hU]; exact hP, ⟨va_K.moved hW.alike C.2.1.1, zN.warm hW C.2.1.2⟩, (hG.2.1.sub is hn hC).weaken (fun _ _ _ _ => trivial), by rw [hU]; exact zT.to C.2.2.1 hG.2.2 hW.alike (va_free hG.2.1 hG.2.2 C.2.2.2 is hC)⟩
/-- behind a call -/
theorem z_back (C : zC E p s m args c cc nL own A) (hG : zG E A s.heap ws H locs) (is : List Nat) (hC : is.map (fun i => ws[i]?) = wc.map some) (hf : w1.map Prod.fst = wc.map Prod.fst) {a0 : Array Value} (hr : va_Run p l e R s m args below meth c H locs cells slots 0 0 (F0 m pc ls st0) rest (zO E (va_A wc H.size) v w1 a0) (va_A wc H.size)) {ws' : va_W} (hw : zrep ws is w1 = ws')
    (kk : ∀ (H1 : Heap) (locs1 : List Loc), zG E A s.heap ws' H1 locs1 → W p l e R s m args below meth c H1 locs1 cells slots Q (F0 m (pc + 3) ls (v.toList ++ rest))) : W p l e R s m args below meth c H locs cells slots Q (F0 m pc ls st0) := by
  intro T hT X
  obtain ⟨v', st₀, t, T', L, h0, X', hL, e1, e2, ⟨hv, hP1, hz, hk⟩, st⟩ := hr T hT X
  cases hv
  rw [h0] at hz hk
  subst hw
  have hF := va_free hG.2.1 hG.2.2 C.2.2.2 is hC
  have hadr : is.map (fun i => (ws.map Prod.fst)[i]?) = (w1.map Prod.fst).map some := by
    rw [hf]
    have h2 := congrArg (List.map (Option.map Prod.fst)) hC
    simp only [List.map_map] at h2
    rw [List.map_map]
    refine Eq.trans ?_ (h2.trans ?_)
    · refine List.map_congr_left (fun i _ => ?_)
      simp only [Function.comp]
      rw [List.getElem?_map]
    · exact List.map_congr_left (fun i _ => rfl)
  have hlen : is.length = w1.length := by
    have := congrArg List.length hadr
    simpa using this
  have hclen : is.length = wc.length := by
    have := congrArg List.length hC
    simpa using this
  have hPn : va_P E.1 vwCl (zrep ws is w1) T'.heap := by
    rw [e1]
    intro k q hq
    rcases zrep_get is ws w1 k q hlen hq with ⟨j, h1, h2⟩ | ⟨h1, h2⟩
    · exact hP1 j q h2
    · refine (hG.1 k q h2).kept (hk q.1 (hG.1 k q h2).lt ?_)
      rintro (⟨k2, e0, h3⟩ | h3)
      · have h4 : (is.map (fun i => ws[i]?))[k2]? = some (some (q.1, e0)) := by rw [hC, List.getElem?_map, h3]; rfl
        rw [List.getElem?_map] at h4
        cases hi : is[k2]? with
        | none => rw [hi] at h4; cases h4
        | some i =>
          rw [hi] at h4
          have hik := hG.2.1.1 k i q (q.1, e0) h2 (Option.some.inj h4) rfl
          subst hik
          exact h1 (List.mem_of_getElem? hi)
      · exact absurd h3 (Nat.not_le.mpr (hG.1 k q h2).lt)
  have hS := hG.2.2
  obtain ⟨t2, a1, b1⟩ := kk T'.heap (locs ++ L) ⟨hPn, hG.2.1.adr (zrep_adr is ws w1 hadr), Nat.le_trans hS.1 (by rw [e1]; exact hz), fun q h1 h2 => by rw [e1, hk q (Nat.lt_of_lt_of_le h1 hS.1) (fun z => h2 (hF q z))]; exact hS.2.1 q h1 h2, fun q hq => by
      rcases List.mem_append.mp hq with h | h
      · exact hS.2.2 q h
      · exact hF _ (hL q h)⟩ T' rfl X'
  exact ⟨t2, st t2 a1, b1⟩
variable {y : MethodName} {bytes : ByteArray} {maxL n index fr lo : Nat} {ret : Option FieldType} {As : List Value} {b : Nat} {host : String}
abbrev zD (y : MethodName) (n : Nat) : Prop := y.cls ≠ "java/lang/invoke/MethodHandle" ∧ y.cls ≠ "java/lang/invoke/VarHandle" ∧ (parseMethodDescriptor y.desc).map (fun d => d.parameters.length) = some n
theorem z_callS (C : zC E p s m args c cc nL own A) (hcode : Cond.code y bytes maxL ret ∈ wsL_law) (hini : Cond.initialized y.cls ∈ wsL_law) (hlink : Cond.methodLink own index y ∈ wsL_law) (hstt : Cond.static y ∈ wsL_law) (hd : zD y n) (hdg : decode cc pc = .ok (.invokestatic index, 3)) (hM : HM l E y bytes maxL ret fr lo As wc v w1) {lv : List (Nat × Value)} (hl : lv_has ls nL lv) (hG : zG E A s.heap ws H locs) (is : List Nat) (hn : va_nd is = true) (hC : is.map (fun i => ws[i]?) = wc.map some) {ads : List Nat} (hf1 : w1.map Prod.fst = ads) (hf2 : wc.map Prod.fst = ads) {ws' : va_W} (hw : zrep ws is w1 = ws') (hAs : As.length = n) (hst : st0 = As.reverse ++ rest) (hW : (rest.map fun v => v.category).sum ≤ 8) {fr' lo' : Nat} (hR : fr + 1 ≤ fr' ∧ 8 + (maxL + 11) + lo ≤ lo')
    (kk : ∀ (H1 : Heap) (locs1 : List Loc), zG E A s.heap ws' H1 locs1 → W p l e (zR fr' lo') s m args below meth c H1 locs1 0 0 Q (F0 m (pc + 3) ls (v.toList ++ rest))) : W p l e (zR fr' lo') s m args below meth c H locs 0 0 Q (F0 m pc ls st0) :=
  z_back C hG is hC (hf1.trans hf2.symm) (va_runS (mc := 0) (ms := 0) C.1 (hM H.size) ⟨callB_of n C.1.2.2.2.2 (zGood hcode) rfl rfl rfl (C.1.2.2.2.2 _ hini) (C.1.2.2.2.2 _ hlink) hd hR, C.1.2.2.2.2 _ hstt⟩ ⟨zI.blind, z_pre C hG is hn hC⟩ rfl hAs hl.1 hst (lv_room hW) hdg ⟨Nat.le_refl 0, Nat.le_refl 0⟩) hw kk
theorem z_callSN (C : zC E p s m args c cc nL own A) (hcode : Cond.code y bytes maxL ret ∈ wsL_law) (hini : Cond.initialized y.cls ∈ wsL_law) (hlink : (own, index, y, host) ∈ zNests) (hstt : Cond.static y ∈ wsL_law) (hd : zD y n) (hdg : decode cc pc = .ok (.invokestatic index, 3)) (hM : HM l E y bytes maxL ret fr lo As wc v w1) {lv : List (Nat × Value)} (hl : lv_has ls nL lv) (hG : zG E A s.heap ws H locs) (is : List Nat) (hn : va_nd is = true) (hC : is.map (fun i => ws[i]?) = wc.map some) {ads : List Nat} (hf1 : w1.map Prod.fst = ads) (hf2 : wc.map Prod.fst = ads) {ws' : va_W} (hw : zrep ws is w1 = ws') (hAs : As.length = n) (hst : st0 = As.reverse ++ rest) (hW : (rest.map fun v => v.category).sum ≤ 8) {fr' lo' : Nat} (hR : fr + 1 ≤ fr' ∧ 8 + (maxL + 11) + lo ≤ lo')
    (kk : ∀ (H1 : Heap) (locs1 : List Loc), zG E A s.heap ws' H1 locs1 → W p l e (zR fr' lo') s m args below meth c H1 locs1 0 0 Q (F0 m (pc + 3) ls (v.toList ++ rest))) : W p l e (zR fr' lo') s m args below meth c H locs 0 0 Q (F0 m pc ls st0) :=
  z_back C hG is hC (hf1.trans hf2.symm) (va_runSN (mc := 0) (ms := 0) C.1 (hM H.size) ⟨va_cnB n C.1.2.2.2.2 (zGood hcode) rfl rfl rfl (C.2.1.2.1 _ hlink) (C.1.2.2.2.2 _ hini) hd hR, C.1.2.2.2.2 _ hstt, trivial⟩ ⟨zI.blind, z_pre C hG is hn hC⟩ rfl hAs hl.1 hst (lv_room hW) hdg ⟨Nat.le_refl 0, Nat.le_refl 0⟩) hw kk
theorem z_callV (C : zC E p s m args c cc nL own A) (hcode : Cond.code y bytes maxL ret ∈ wsL_law) (hini : Cond.initialized y.cls ∈ wsL_law) (hlink : Cond.methodLink own index y ∈ wsL_law) (hinst : Cond.instanceMethod y ∈ wsL_law) {Cn : String} (hsel : Cond.selects Cn y y ∈ wsL_law) (hd : zD y n) {ci : Nat} {T : u_T} {N : Nat} (hc : vwCl[ci]? = some (Cn, T, N)) (hdg : decode cc pc = .ok (.invokevirtual index, 3)) (hM : HM l E y bytes maxL ret fr lo (.ref b :: As) wc v w1) {lv : List (Nat × Value)} (hl : lv_has ls nL lv) (hG : zG E A s.heap ws H locs) (q0 : Nat) {fs : List Value} (he : ws[q0]? = some (b, .inr (ci, fs))) (is : List Nat) (hn : va_nd is = true) (hC : is.map (fun i => ws[i]?) = wc.map some) {ads : List Nat} (hf1 : w1.map Prod.fst = ads) (hf2 : wc.map Prod.fst = ads) {ws' : va_W} (hw : zrep ws is w1 = ws') (hAs : As.length = n) (hst : st0 = As.reverse ++ .ref b :: rest) (hW : (rest.map fun v => v.category).sum ≤ 8) {fr' lo' : Nat} (hR : fr + 1 ≤ fr' ∧ 8 + (maxL + 11) + lo ≤ lo')
    (kk : ∀ (H1 : Heap) (locs1 : List Loc), zG E A s.heap ws' H1 locs1 → W p l e (zR fr' lo') s m args below meth c H1 locs1 0 0 Q (F0 m (pc + 3) ls (v.toList ++ rest))) : W p l e (zR fr' lo') s m args below meth c H locs 0 0 Q (F0 m pc ls st0) :=
  z_back C hG is hC (hf1.trans hf2.symm) (va_runV (mc := 0) (ms := 0) C.1 (hM H.size) ⟨callB_of n C.1.2.2.2.2 (zGood hcode) rfl rfl rfl (C.1.2.2.2.2 _ hini) (C.1.2.2.2.2 _ hlink) hd hR, C.1.2.2.2.2 _ hinst, C.1.2.2.2.2 _ hsel⟩ ⟨zI.blind, va_recv C.2.1.1 hG.1 hc he, z_pre C hG is hn hC⟩ rfl hAs hl.1 hst (lv_room hW) hdg ⟨Nat.le_refl 0, Nat.le_refl 0⟩) hw kk
end Z1
theorem z_b01 {x : Int32} (h : x = 0 ∨ x = 1) : narrow .boolean (.int x) = .int x := by
  rcases h with rfl | rfl <;> rfl
theorem z_b01f {x : Int32} (h : x = 0 ∨ x = 1) : fits .boolean (.int x) = true := by
  rcases h with rfl | rfl <;> rfl
def mkG5 (a0 a1 a2 a3 a4 : Int32) : Nat → Int32 := fun k => match k with | 0 => a0 | 1 => a1 | 2 => a2 | 3 => a3 | _ => a4
def mkG12 (a0 a1 a2 a3 a4 a5 a6 a7 a8 a9 a10 a11 : Int32) : Nat → Int32 := fun k => match k with | 0 => a0 | 1 => a1 | 2 => a2 | 3 => a3 | 4 => a4 | 5 => a5 | 6 => a6 | 7 => a7 | 8 => a8 | 9 => a9 | 10 => a10 | _ => a11
theorem z_vin {i : Int32} {n : Nat} (hn : n < 2 ^ 31) (h1 : ¬ i < 0) (h2 : ¬ nI n ≤ i) : vp_in i n := by
  rcases pk_ix i hn with h | h | ⟨j, hj, rfl⟩
  · exact absurd h h1
  · exact absurd h h2
  · exact vp_in_nI hj hn
theorem z_ge_no {k N : Nat} {x : Int32} (hk : k < N) (hN : N < 2 ^ 31) (hx : x = nI N) : ¬ x ≤ nI k := by
  rw [hx, nI_leI hN (Nat.lt_trans hk hN)]; omega
theorem z_ge_yes {N : Nat} {x : Int32} (hx : x = nI N) : x ≤ nI N := by rw [hx]; exact Int32.le_refl _
theorem z_gt_no {k N : Nat} {x : Int32} (hk : k ≤ N) (hN : N < 2 ^ 31) (hx : x = nI N) : ¬ x < nI k := by
  rw [hx, nI_ltI hN (Nat.lt_of_le_of_lt hk hN)]; omega
theorem z_gt_yes {k N : Nat} {x : Int32} (hk : N < k) (hN : k < 2 ^ 31) (hx : x = nI N) : x < nI k := by
  rw [hx, nI_ltI (Nat.lt_trans hk hN) hN]; exact hk
def mkG16 (a0 a1 a2 a3 a4 a5 a6 a7 a8 a9 a10 a11 a12 a13 a14 a15 : Int32) : Nat → Int32 := fun k => match k with | 0 => a0 | 1 => a1 | 2 => a2 | 3 => a3 | 4 => a4 | 5 => a5 | 6 => a6 | 7 => a7 | 8 => a8 | 9 => a9 | 10 => a10 | 11 => a11 | 12 => a12 | 13 => a13 | 14 => a14 | _ => a15
theorem mkG16_0 (a0 a1 a2 a3 a4 a5 a6 a7 a8 a9 a10 a11 a12 a13 a14 a15 : Int32) : mkG16 a0 a1 a2 a3 a4 a5 a6 a7 a8 a9 a10 a11 a12 a13 a14 a15 0 = a0 := rfl
theorem mkG16_1 (a0 a1 a2 a3 a4 a5 a6 a7 a8 a9 a10 a11 a12 a13 a14 a15 : Int32) : mkG16 a0 a1 a2 a3 a4 a5 a6 a7 a8 a9 a10 a11 a12 a13 a14 a15 1 = a1 := rfl
theorem mkG16_2 (a0 a1 a2 a3 a4 a5 a6 a7 a8 a9 a10 a11 a12 a13 a14 a15 : Int32) : mkG16 a0 a1 a2 a3 a4 a5 a6 a7 a8 a9 a10 a11 a12 a13 a14 a15 2 = a2 := rfl
theorem mkG16_3 (a0 a1 a2 a3 a4 a5 a6 a7 a8 a9 a10 a11 a12 a13 a14 a15 : Int32) : mkG16 a0 a1 a2 a3 a4 a5 a6 a7 a8 a9 a10 a11 a12 a13 a14 a15 3 = a3 := rfl
theorem mkG16_4 (a0 a1 a2 a3 a4 a5 a6 a7 a8 a9 a10 a11 a12 a13 a14 a15 : Int32) : mkG16 a0 a1 a2 a3 a4 a5 a6 a7 a8 a9 a10 a11 a12 a13 a14 a15 4 = a4 := rfl
theorem mkG16_5 (a0 a1 a2 a3 a4 a5 a6 a7 a8 a9 a10 a11 a12 a13 a14 a15 : Int32) : mkG16 a0 a1 a2 a3 a4 a5 a6 a7 a8 a9 a10 a11 a12 a13 a14 a15 5 = a5 := rfl
theorem mkG16_6 (a0 a1 a2 a3 a4 a5 a6 a7 a8 a9 a10 a11 a12 a13 a14 a15 : Int32) : mkG16 a0 a1 a2 a3 a4 a5 a6 a7 a8 a9 a10 a11 a12 a13 a14 a15 6 = a6 := rfl
theorem mkG16_7 (a0 a1 a2 a3 a4 a5 a6 a7 a8 a9 a10 a11 a12 a13 a14 a15 : Int32) : mkG16 a0 a1 a2 a3 a4 a5 a6 a7 a8 a9 a10 a11 a12 a13 a14 a15 7 = a7 := rfl
theorem mkG16_8 (a0 a1 a2 a3 a4 a5 a6 a7 a8 a9 a10 a11 a12 a13 a14 a15 : Int32) : mkG16 a0 a1 a2 a3 a4 a5 a6 a7 a8 a9 a10 a11 a12 a13 a14 a15 8 = a8 := rfl
theorem mkG16_9 (a0 a1 a2 a3 a4 a5 a6 a7 a8 a9 a10 a11 a12 a13 a14 a15 : Int32) : mkG16 a0 a1 a2 a3 a4 a5 a6 a7 a8 a9 a10 a11 a12 a13 a14 a15 9 = a9 := rfl
theorem mkG16_10 (a0 a1 a2 a3 a4 a5 a6 a7 a8 a9 a10 a11 a12 a13 a14 a15 : Int32) : mkG16 a0 a1 a2 a3 a4 a5 a6 a7 a8 a9 a10 a11 a12 a13 a14 a15 10 = a10 := rfl
theorem mkG16_11 (a0 a1 a2 a3 a4 a5 a6 a7 a8 a9 a10 a11 a12 a13 a14 a15 : Int32) : mkG16 a0 a1 a2 a3 a4 a5 a6 a7 a8 a9 a10 a11 a12 a13 a14 a15 11 = a11 := rfl
theorem mkG16_12 (a0 a1 a2 a3 a4 a5 a6 a7 a8 a9 a10 a11 a12 a13 a14 a15 : Int32) : mkG16 a0 a1 a2 a3 a4 a5 a6 a7 a8 a9 a10 a11 a12 a13 a14 a15 12 = a12 := rfl
theorem mkG16_13 (a0 a1 a2 a3 a4 a5 a6 a7 a8 a9 a10 a11 a12 a13 a14 a15 : Int32) : mkG16 a0 a1 a2 a3 a4 a5 a6 a7 a8 a9 a10 a11 a12 a13 a14 a15 13 = a13 := rfl
theorem mkG16_14 (a0 a1 a2 a3 a4 a5 a6 a7 a8 a9 a10 a11 a12 a13 a14 a15 : Int32) : mkG16 a0 a1 a2 a3 a4 a5 a6 a7 a8 a9 a10 a11 a12 a13 a14 a15 14 = a14 := rfl
theorem mkG16_15 (a0 a1 a2 a3 a4 a5 a6 a7 a8 a9 a10 a11 a12 a13 a14 a15 : Int32) : mkG16 a0 a1 a2 a3 a4 a5 a6 a7 a8 a9 a10 a11 a12 a13 a14 a15 15 = a15 := rfl
/-- twelve places of one garden, the rest of another -/
def mixG (f g : Nat → Int32) : Nat → Int32 := fun k => if k < 12 then f k else g k
theorem mixG_0 (f g : Nat → Int32) : mixG f g 0 = f 0 := rfl
theorem mixG_1 (f g : Nat → Int32) : mixG f g 1 = f 1 := rfl
theorem mixG_2 (f g : Nat → Int32) : mixG f g 2 = f 2 := rfl
theorem mixG_3 (f g : Nat → Int32) : mixG f g 3 = f 3 := rfl
theorem mixG_4 (f g : Nat → Int32) : mixG f g 4 = f 4 := rfl
theorem mixG_5 (f g : Nat → Int32) : mixG f g 5 = f 5 := rfl
theorem mixG_6 (f g : Nat → Int32) : mixG f g 6 = f 6 := rfl
theorem mixG_7 (f g : Nat → Int32) : mixG f g 7 = f 7 := rfl
theorem mixG_8 (f g : Nat → Int32) : mixG f g 8 = f 8 := rfl
theorem mixG_9 (f g : Nat → Int32) : mixG f g 9 = f 9 := rfl
theorem mixG_10 (f g : Nat → Int32) : mixG f g 10 = f 10 := rfl
theorem mixG_11 (f g : Nat → Int32) : mixG f g 11 = f 11 := rfl
theorem mixG_12 (f g : Nat → Int32) : mixG f g 12 = g 12 := rfl
theorem mixG_13 (f g : Nat → Int32) : mixG f g 13 = g 13 := rfl
theorem mixG_14 (f g : Nat → Int32) : mixG f g 14 = g 14 := rfl
theorem mixG_15 (f g : Nat → Int32) : mixG f g 15 = g 15 := rfl
theorem mixG_eq (f g : Nat → Int32) : ∀ i, i < 12 → mixG f g i = f i := fun i hi => if_pos hi
theorem mkG5_0 (a0 a1 a2 a3 a4 : Int32) : mkG5 a0 a1 a2 a3 a4 0 = a0 := rfl
theorem mkG5_1 (a0 a1 a2 a3 a4 : Int32) : mkG5 a0 a1 a2 a3 a4 1 = a1 := rfl
theorem mkG5_2 (a0 a1 a2 a3 a4 : Int32) : mkG5 a0 a1 a2 a3 a4 2 = a2 := rfl
theorem mkG5_3 (a0 a1 a2 a3 a4 : Int32) : mkG5 a0 a1 a2 a3 a4 3 = a3 := rfl
theorem mkG5_4 (a0 a1 a2 a3 a4 : Int32) : mkG5 a0 a1 a2 a3 a4 4 = a4 := rfl
theorem mkG12_0 (a0 a1 a2 a3 a4 a5 a6 a7 a8 a9 a10 a11 : Int32) : mkG12 a0 a1 a2 a3 a4 a5 a6 a7 a8 a9 a10 a11 0 = a0 := rfl
theorem mkG12_1 (a0 a1 a2 a3 a4 a5 a6 a7 a8 a9 a10 a11 : Int32) : mkG12 a0 a1 a2 a3 a4 a5 a6 a7 a8 a9 a10 a11 1 = a1 := rfl
theorem mkG12_2 (a0 a1 a2 a3 a4 a5 a6 a7 a8 a9 a10 a11 : Int32) : mkG12 a0 a1 a2 a3 a4 a5 a6 a7 a8 a9 a10 a11 2 = a2 := rfl
theorem mkG12_3 (a0 a1 a2 a3 a4 a5 a6 a7 a8 a9 a10 a11 : Int32) : mkG12 a0 a1 a2 a3 a4 a5 a6 a7 a8 a9 a10 a11 3 = a3 := rfl
theorem mkG12_4 (a0 a1 a2 a3 a4 a5 a6 a7 a8 a9 a10 a11 : Int32) : mkG12 a0 a1 a2 a3 a4 a5 a6 a7 a8 a9 a10 a11 4 = a4 := rfl
theorem mkG12_5 (a0 a1 a2 a3 a4 a5 a6 a7 a8 a9 a10 a11 : Int32) : mkG12 a0 a1 a2 a3 a4 a5 a6 a7 a8 a9 a10 a11 5 = a5 := rfl
theorem mkG12_6 (a0 a1 a2 a3 a4 a5 a6 a7 a8 a9 a10 a11 : Int32) : mkG12 a0 a1 a2 a3 a4 a5 a6 a7 a8 a9 a10 a11 6 = a6 := rfl
theorem mkG12_7 (a0 a1 a2 a3 a4 a5 a6 a7 a8 a9 a10 a11 : Int32) : mkG12 a0 a1 a2 a3 a4 a5 a6 a7 a8 a9 a10 a11 7 = a7 := rfl
theorem mkG12_8 (a0 a1 a2 a3 a4 a5 a6 a7 a8 a9 a10 a11 : Int32) : mkG12 a0 a1 a2 a3 a4 a5 a6 a7 a8 a9 a10 a11 8 = a8 := rfl
theorem mkG12_9 (a0 a1 a2 a3 a4 a5 a6 a7 a8 a9 a10 a11 : Int32) : mkG12 a0 a1 a2 a3 a4 a5 a6 a7 a8 a9 a10 a11 9 = a9 := rfl
theorem mkG12_10 (a0 a1 a2 a3 a4 a5 a6 a7 a8 a9 a10 a11 : Int32) : mkG12 a0 a1 a2 a3 a4 a5 a6 a7 a8 a9 a10 a11 10 = a10 := rfl
theorem mkG12_11 (a0 a1 a2 a3 a4 a5 a6 a7 a8 a9 a10 a11 : Int32) : mkG12 a0 a1 a2 a3 a4 a5 a6 a7 a8 a9 a10 a11 11 = a11 := rfl
