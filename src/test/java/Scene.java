/** States that stand at an edge of the document, each reached from a new object with at most 150 calls. */
enum Scene {
    NEW(20) {
        @Override
        void play(Run run) { }
    },
    LEASES(20) {
        @Override
        void play(Run run) {
            run.getLease(0, 0, 2);
            run.getLease(1, 1, 1);
            run.getLease(2, 1, 1);
            run.getLease(2, 3, 2);
            run.call(Call.WRITE, 0, 0, 1, 5);
        }
    },
    ALL_HAVE_OPEN_REQUESTS(20) {
        @Override
        void play(Run run) {
            run.call(Call.ACQUIRE, 0, 0, 2);
            run.call(Call.ACQUIRE, 1, 0, 1);
            run.call(Call.ACQUIRE, 2, 3, 1);
        }
    },
    SIX_DIRTY_WRITES(40) {
        @Override
        void play(Run run) {
            run.getLease(0, 2, 1);
            writesOn(run, 6, 0, 1);
        }
    },
    FIVE_DIRTY_WRITES(40) {
        @Override
        void play(Run run) {
            run.getLease(0, 2, 1);
            writesOn(run, 5, 0, 1);
        }
    },
    LOST_WITH_A_LEASE(20) {
        @Override
        void play(Run run) {
            writesOn(run, 2, 0, 1);
            run.call(Call.TICK, 3, 20);
            run.getLease(0, 0, 2);
        }
    },
    LOST_WITHOUT_A_LEASE(20) {
        @Override
        void play(Run run) {
            writesOn(run, 3, 0, 1);
            run.call(Call.TICK, 3, 20);
            run.call(Call.FLUSH, 0);
            run.deliverLast();
            run.deliverLast();
        }
    },
    LOST_AND_SIX_DIRTY_WRITES(60) {
        @Override
        void play(Run run) {
            LOST_WITHOUT_A_LEASE.play(run);
            run.call(Call.TICK, 3, 60);
            run.call(Call.FLUSH, 0);
            run.deliverLast();
            run.deliverLast();
            writesOn(run, 6, 2, 3);
        }
    },
    RECALLED(20) {
        @Override
        void play(Run run) {
            run.getLease(0, 0, 2);
            run.call(Call.WRITE, 0, 0, 0, 8);
            run.getLease(2, 2, 1);
            run.call(Call.ACQUIRE, 1, 0, 1);
            run.deliverLast();
            run.deliverLast();
        }
    },
    LAST_TICK_OF_TERM(20) {
        @Override
        void play(Run run) {
            RECALLED.play(run);
            run.call(Call.TICK, 0, 7);
            run.call(Call.TICK, 2, 7);
        }
    },
    TERM_IS_OVER(20) {
        @Override
        void play(Run run) {
            LAST_TICK_OF_TERM.play(run);
            run.call(Call.TICK, 0, 1);
            run.call(Call.TICK, 2, 1);
        }
    },
    LAST_TICK_OF_LENGTH(20) {
        @Override
        void play(Run run) {
            RECALLED.play(run);
            run.call(Call.TICK, 3, 19);
        }
    },
    LENGTH_IS_OVER(20) {
        @Override
        void play(Run run) {
            LAST_TICK_OF_LENGTH.play(run);
            run.call(Call.TICK, 3, 1);
        }
    },
    SERVER_IS_DOWN(20) {
        @Override
        void play(Run run) {
            RECALLED.play(run);
            run.call(Call.FLUSH, 0);
            run.call(Call.CRASH, 3);
        }
    },
    CLIENT_IS_DOWN(20) {
        @Override
        void play(Run run) {
            run.getLease(0, 0, 2);
            run.call(Call.WRITE, 0, 0, 0, 8);
            run.call(Call.FLUSH, 0);
            run.call(Call.ACQUIRE, 1, 0, 2);
            run.deliverLast();
            run.call(Call.DUPLICATE, 0);
            run.call(Call.DELIVER, 0);
            run.call(Call.CRASH, 0);
        }
    },
    GRACE(10) {
        @Override
        void play(Run run) {
            run.getLease(0, 0, 2);
            run.call(Call.WRITE, 0, 0, 0, 8);
            run.getLease(1, 1, 1);
            run.getLease(2, 1, 1);
            run.call(Call.CRASH, 3);
            run.call(Call.RESTART, 3);
            run.getLease(1, 1, 1);
            run.call(Call.ACQUIRE, 0, 0, 2);
            run.call(Call.ACQUIRE, 1, 0, 1);
            run.deliverLast();
        }
    },
    LAST_TICK_OF_GRACE(10) {
        @Override
        void play(Run run) {
            GRACE.play(run);
            run.call(Call.ACQUIRE, 2, 3, 2);
            run.deliverLast();
            run.call(Call.TICK, 3, 9);
        }
    },
    GRACE_IS_OVER(10) {
        @Override
        void play(Run run) {
            LAST_TICK_OF_GRACE.play(run);
            run.call(Call.TICK, 3, 1);
        }
    },
    THREE_READERS_WAIT_IN_GRACE(10) {
        @Override
        void play(Run run) {
            run.call(Call.CRASH, 3);
            run.call(Call.RESTART, 3);
            for (int c = 2; c >= 0; c--) {
                run.call(Call.ACQUIRE, c, 1, 1);
                run.deliverLast();
            }
            run.call(Call.TICK, 3, 9);
        }
    },
    FIFTY_NINE_MESSAGES(20) {
        @Override
        void play(Run run) {
            LAST_TICK_OF_LENGTH.play(run);
            run.call(Call.ACQUIRE, 2, 0, 1);
            run.deliverLast();
            run.call(Call.FLUSH, 0);
            fillUpTo(run, 59);
        }
    },
    SIXTY_MESSAGES(20) {
        @Override
        void play(Run run) {
            FIFTY_NINE_MESSAGES.play(run);
            run.call(Call.DUPLICATE, 0);
        }
    },
    EACH_KIND_OF_MESSAGE(20) {
        @Override
        void play(Run run) {
            run.getLease(2, 3, 2);
            run.call(Call.WRITE, 2, 3, 0, 3);
            run.call(Call.CRASH, 3);
            run.call(Call.RESTART, 3);
            run.call(Call.FLUSH, 2);
            run.deliverLast();
            run.call(Call.TICK, 3, 20);
            run.call(Call.ACQUIRE, 0, 0, 2);
            run.deliverLast();
            twice(run);
            run.call(Call.WRITE, 0, 0, 2, 4);
            run.call(Call.WRITE, 0, 0, 2, 5);
            run.call(Call.FLUSH, 0);
            twice(run);
            twice(run);
            run.call(Call.ACQUIRE, 1, 0, 1);
            run.deliverLast();
            run.call(Call.ACQUIRE, 0, 0, 2);
            run.deliverLast();
            twice(run);
            run.call(Call.CRASH, 1);
            run.call(Call.RESTART, 1);
            run.getLease(1, 2, 1);
            run.call(Call.CLOSE, 1, 2);
            run.call(Call.ACQUIRE, 0, 3, 2);
        }
    },
    REPEATS_OF_OLD_DONE_AND_WAITING_REQUESTS(20) {
        @Override
        void play(Run run) {
            run.call(Call.ACQUIRE, 0, 0, 2);
            twice(run);
            run.deliverLast();
            run.call(Call.ACQUIRE, 0, 1, 1);
            twice(run);
            run.deliverLast();
            run.call(Call.ACQUIRE, 1, 0, 2);
            twice(run);
            run.call(Call.ACQUIRE, 2, 0, 1);
            twice(run);
        }
    },
    AN_OLDER_REQUEST_IS_LATE(20) {
        @Override
        void play(Run run) {
            run.getLease(0, 0, 2);
            run.call(Call.ACQUIRE, 1, 0, 2);
            twice(run);
            run.call(Call.ACQUIRE, 2, 0, 2);
            run.deliverLast();
            run.call(Call.CRASH, 1);
            run.call(Call.RESTART, 1);
            run.call(Call.ACQUIRE, 1, 0, 1);
            run.deliverLast();
        }
    };

    final int length;

    Scene(int length) {
        this.length = length;
    }

    abstract void play(Run run);

    /** Client 0 gets two files and writes to them in turn, until so many writes are dirty. */
    private static void writesOn(Run run, int count, int f, int g) {
        run.getLease(0, f, 2);
        run.getLease(0, g, 2);
        for (int i = 0; i < count; i++) {
            run.call(Call.WRITE, 0, i % 2 == 0 ? f : g, i % 4, 100 + i);
        }
    }

    /** The message sent last arrives, and one like it stays under way. */
    private static void twice(Run run) {
        int last = run.model.messages() - 1;
        run.call(Call.DUPLICATE, last);
        run.call(Call.DELIVER, last);
    }

    private static void fillUpTo(Run run, int count) {
        int missing = count - run.model.messages();
        for (int i = 0; i < missing; i++) {
            run.call(Call.DUPLICATE, i);
        }
    }
}
