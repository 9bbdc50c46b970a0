/** How much there can be: six dirty writes, one open request, sixty messages, 512 calls. */
public final class LimitsTest {
    private static final Check CHECK = new Check("LimitsTest");

    public static void main(String[] args) {
        theSixthWriteIsKeptAndTheSeventhIsNot();
        aRefusedSeventhLeavesTheSixInOrder();
        aWriteUnderWayCountsUntilTheReplyArrives();
        eachClientHasSixOfItsOwn();
        writesGoRoundTheList();
        oneOpenRequestOfAnyKind();
        theSixtiethRequestIsKeptAndTheNextIsLost();
        theSixtiethRetryIsKeptAndTheNextIsLost();
        arrivingMakesRoomForOneReply();
        recallsAtTheLimit();
        grantsFromTheLineAtTheLimit();
        grantsAtATickAtTheLimit();
        duplicateAtTheLimit();
        aLineOfAllThree();
        allThreeReadersAtOnce();
        theLastOf512Calls();
        CHECK.end();
    }

    /** Client 0 has files 0 and 1 for writing, in its requests 1 and 2. */
    private static LeasedPages writer() {
        LeasedPages x = new LeasedPages(200);
        Check.getLease(x, 0, 0, 2);
        Check.getLease(x, 0, 1, 2);
        return x;
    }

    private static void theSixthWriteIsKeptAndTheSeventhIsNot() {
        LeasedPages x = writer();
        for (int i = 1; i <= 6; i++) {
            CHECK.due("write " + i, x.write(0, 0, i % 4, i), i);
            CHECK.due("dirty", x.dirty(0), i);
        }
        CHECK.due("seventh to the same file", x.write(0, 0, 0, 7), LeasedPages.FULL);
        CHECK.due("seventh to another file", x.write(0, 1, 0, 7), LeasedPages.FULL);
        CHECK.due("dirty", x.dirty(0), 6);
    }

    private static void aRefusedSeventhLeavesTheSixInOrder() {
        LeasedPages x = writer();
        for (int i = 1; i <= 6; i++) {
            x.write(0, i % 2, 3, 10 * i);
        }
        CHECK.due("seventh", x.write(0, 1, 3, 70), LeasedPages.FULL);
        CHECK.due("the copy is as before", x.read(0, 1, 3, 0), 50);
        for (int i = 1; i <= 6; i++) {
            Check.storeFirst(x, 0);
            CHECK.due("store " + i, x.stored(i % 2, 3), 10 * i);
            CHECK.due("dirty", x.dirty(0), 6 - i);
        }
        CHECK.due("nothing more", x.flush(0), LeasedPages.NONE);
        CHECK.due("the seventh never came", x.stored(1, 3), 50);
    }

    private static void aWriteUnderWayCountsUntilTheReplyArrives() {
        LeasedPages x = writer();
        for (int i = 1; i <= 6; i++) {
            x.write(0, 0, 0, i);
        }
        x.flush(0);
        CHECK.due("sent", x.write(0, 0, 0, 7), LeasedPages.FULL);
        x.deliver(0);
        CHECK.due("stored", x.write(0, 0, 0, 7), LeasedPages.FULL);
        x.deliver(0);
        CHECK.due("the reply is there", x.write(0, 0, 0, 7), 6);
        CHECK.due("there was room for one", x.write(0, 0, 0, 8), LeasedPages.FULL);
    }

    private static void eachClientHasSixOfItsOwn() {
        LeasedPages x = new LeasedPages(200);
        for (int c = 0; c < 3; c++) {
            Check.getLease(x, c, c, 2);
            for (int i = 1; i <= 6; i++) {
                CHECK.due("client " + c + " write " + i, x.write(c, c, 0, i), i);
            }
        }
        CHECK.due("full", x.write(1, 1, 0, 7), LeasedPages.FULL);
    }

    private static void writesGoRoundTheList() {
        LeasedPages x = writer();
        for (int i = 1; i <= 4; i++) {
            x.write(0, 0, 0, i);
        }
        for (int i = 1; i <= 20; i++) {
            CHECK.due("write", x.write(0, i % 2, 0, i + 4), 5);
            x.flush(0);
            x.deliver(0);
            int stored = i <= 4 ? x.stored(0, 0) : x.stored(i % 2, 0);
            CHECK.due("the oldest of five is stored", stored, i);
            x.deliver(0);
            CHECK.due("dirty", x.dirty(0), 4);
        }
    }

    private static void oneOpenRequestOfAnyKind() {
        for (int kind = 1; kind <= 3; kind++) {
            LeasedPages x = writer();
            x.write(0, 0, 0, 5);
            int open = kind == 1 ? x.acquire(0, 2, 1) : kind == 2 ? x.flush(0) : x.close(0, 1);
            String what = "open request of kind " + kind;
            CHECK.due(what, open, 3);
            CHECK.due(what + ": acquire", x.acquire(0, 3, 1), LeasedPages.NONE);
            CHECK.due(what + ": flush", x.flush(0), LeasedPages.NONE);
            CHECK.due(what + ": close", x.close(0, kind == 3 ? 0 : 1), LeasedPages.NONE);
            CHECK.due(what + ": one message", x.messages(), 1);
            CHECK.due(what + ": it is the open one yet", x.retry(0), 3);
            CHECK.due(what + ": no hindrance for another client", x.acquire(1, 3, 1), 1);
            CHECK.due(what + ": nor for a read", x.read(0, 0, 0, 0), 5);
            CHECK.due(what + ": nor for a write", x.write(0, 0, 0, 6), 2);
            x.deliver(0);
            CHECK.due(what + ": open until the reply arrives", x.acquire(0, 3, 1), LeasedPages.NONE);
            Check.deliverLast(x);
            CHECK.due(what + ": open no more", x.retry(0), LeasedPages.NONE);
            CHECK.due(what + ": the number behind it", x.acquire(0, 3, 1), 4);
        }
    }

    /** A request of client 2 is under way as often as it takes to make so many messages. */
    private static void fill(LeasedPages x, int count) {
        if (x.messages() == 0) {
            x.acquire(2, 3, 1);
        }
        while (x.messages() < count) {
            x.duplicate(0);
        }
    }

    private static void theSixtiethRequestIsKeptAndTheNextIsLost() {
        for (int kind = 1; kind <= 3; kind++) {
            for (int before = 59; before <= 60; before++) {
                LeasedPages x = writer();
                x.write(0, 0, 0, 5);
                fill(x, before);
                int number = kind == 1 ? x.acquire(0, 2, 1) : kind == 2 ? x.flush(0) : x.close(0, 1);
                String what = "request of kind " + kind + " behind " + before;
                int code = 1000000 * kind + (kind == 1 ? 20003 : kind == 2 ? 3 : 10003);
                CHECK.due(what, number, 3);
                CHECK.due(what + ": messages", x.messages(), 60);
                CHECK.due(what + ": the last", x.message(59), before == 59 ? code : 1230001);
                CHECK.due(what + ": it is open all the same", x.acquire(0, 3, 1), LeasedPages.NONE);
                CHECK.due(what + ": a closed lease is gone", x.lease(0, 1), kind == 3 ? 0 : 2);
                x.drop(0);
                CHECK.due(what + ": retry", x.retry(0), 3);
                CHECK.due(what + ": sent again", x.message(59), code);
            }
        }
    }

    private static void theSixtiethRetryIsKeptAndTheNextIsLost() {
        LeasedPages x = writer();
        x.acquire(0, 2, 1);
        x.drop(0);
        fill(x, 59);
        CHECK.due("sixtieth", x.retry(0), 3);
        CHECK.due("kept", x.message(59), 1020003);
        CHECK.due("the next", x.retry(0), 3);
        CHECK.due("lost", x.messages(), 60);
        CHECK.due("once", x.message(58), 1230001);
    }

    private static void arrivingMakesRoomForOneReply() {
        LeasedPages x = writer();
        x.write(0, 0, 0, 5);
        x.flush(0);
        fill(x, 60);
        CHECK.yes("the STORE arrives", x.deliver(0));
        CHECK.due("its reply has the sixtieth place", x.message(59), 6000003);
        CHECK.due("messages", x.messages(), 60);
        CHECK.yes("a double arrives", x.deliver(0));
        CHECK.due("the reply once more", x.message(59), 6000003);
        CHECK.due("and the one before", x.message(58), 6000003);
    }

    /** Two clients read, and the third one's request to write is under way with others. */
    private static LeasedPages twoReadersAndAWriter(int messages) {
        LeasedPages x = new LeasedPages(20);
        Check.getLease(x, 0, 0, 1);
        Check.getLease(x, 1, 0, 1);
        x.acquire(2, 0, 2);
        fill(x, messages);
        return x;
    }

    private static void recallsAtTheLimit() {
        LeasedPages x = twoReadersAndAWriter(59);
        x.deliver(0);
        CHECK.due("58 and two recalls", x.messages(), 60);
        CHECK.due("to 0", x.message(58), 8000000);
        CHECK.due("to 1", x.message(59), 8100000);
        LeasedPages y = twoReadersAndAWriter(60);
        y.deliver(0);
        CHECK.due("59 and one recall", y.messages(), 60);
        CHECK.due("to 0 alone", y.message(59), 8000000);
        CHECK.due("the request waits all the same", y.waiting(0), 1);
        CHECK.yes("drop", y.drop(59));
        CHECK.due("the other one does not come later", y.messages(), 59);
    }

    /** Clients 1 and 2 wait to read what client 0 writes; 0's RELEASE is message 0. */
    private static LeasedPages releaseWithTwoWaiting(int messages) {
        LeasedPages x = new LeasedPages(20);
        Check.getLease(x, 0, 0, 2);
        x.acquire(1, 0, 1);
        Check.deliverLast(x);
        x.acquire(2, 0, 1);
        Check.deliverLast(x);
        Check.dropAll(x);
        x.close(0, 0);
        fill(x, messages);
        return x;
    }

    private static void grantsFromTheLineAtTheLimit() {
        LeasedPages x = releaseWithTwoWaiting(58);
        x.deliver(0);
        CHECK.due("57 and three", x.messages(), 60);
        CHECK.due("the reply", x.message(57), 6000002);
        CHECK.due("the first grant", x.message(58), 4100001);
        CHECK.due("the second grant", x.message(59), 4200001);
        LeasedPages y = releaseWithTwoWaiting(59);
        y.deliver(0);
        CHECK.due("58 and two", y.messages(), 60);
        CHECK.due("the first grant", y.message(59), 4100001);
        CHECK.due("the second is lost, but granted", y.held(2, 0), 1020);
        LeasedPages z = releaseWithTwoWaiting(60);
        z.deliver(0);
        CHECK.due("59 and one", z.messages(), 60);
        CHECK.due("the reply", z.message(59), 6000002);
        CHECK.due("both grants are lost, but granted", z.held(1, 0) + z.held(2, 0), 2040);
        CHECK.due("nobody waits", z.waiting(0), 0);
        z.drop(0);
        z.drop(0);
        CHECK.due("retry", z.retry(2), 1);
        z.deliver(58);
        CHECK.due("the lost reply is sent again", z.message(58), 4200001);
    }

    private static void grantsAtATickAtTheLimit() {
        for (int before = 58; before <= 60; before++) {
            LeasedPages x = releaseWithTwoWaiting(before);
            x.tick(3, 20);
            String what = "a tick with " + before + " messages";
            CHECK.due(what, x.messages(), 60);
            CHECK.due(what + ": both are granted", x.held(1, 0) + x.held(2, 0), 2040);
            CHECK.due(what + ": the last", x.message(59), before == 58 ? 4200001 : before == 59 ? 4100001 : 3000002);
            CHECK.due(what + ": the one before", x.message(58), before == 58 ? 4100001 : 3000002);
        }
    }

    private static void duplicateAtTheLimit() {
        LeasedPages x = new LeasedPages(20);
        CHECK.no("of an empty list", x.duplicate(0));
        fill(x, 58);
        x.acquire(0, 0, 1);
        CHECK.yes("59 are there", x.duplicate(58));
        CHECK.due("at the end", x.message(59), 1000001);
        CHECK.no("60 are there", x.duplicate(58));
        CHECK.no("60 are there, and none such", x.duplicate(60));
        CHECK.due("messages", x.messages(), 60);
        CHECK.yes("the last of sixty", x.drop(59));
        CHECK.no("it is gone", x.drop(59));
        CHECK.yes("the last of 59", x.deliver(58));
        CHECK.due("granted", x.held(0, 0), 1020);
    }

    private static void aLineOfAllThree() {
        LeasedPages x = new LeasedPages(20);
        x.crash(3);
        x.restart(3);
        for (int c = 2; c >= 0; c--) {
            x.acquire(c, 1, c == 1 ? 2 : 1);
            x.deliver(0);
            CHECK.due("so many wait", x.waiting(1), 3 - c);
        }
        for (int c = 0; c < 3; c++) {
            x.retry(c);
            x.deliver(0);
        }
        CHECK.due("a request that waits is not taken twice", x.waiting(1), 3);
        x.tick(3, 20);
        CHECK.due("the first one's turn", x.message(0), 4210001);
        CHECK.due("the writer waits, and who is behind it", x.waiting(1), 2);
        x.tick(3, 20);
        CHECK.due("the second one's turn", x.message(1), 4110001);
        x.tick(3, 20);
        CHECK.due("the third one's turn", x.message(2), 4010001);
        CHECK.due("nobody waits", x.waiting(1), 0);
        CHECK.due("three messages", x.messages(), 3);
    }

    private static void allThreeReadersAtOnce() {
        LeasedPages x = new LeasedPages(20);
        x.crash(3);
        x.restart(3);
        int[] order = {1, 2, 0};
        for (int c : order) {
            x.acquire(c, 3, 1);
            x.deliver(0);
        }
        x.tick(3, 19);
        CHECK.due("three wait", x.waiting(3), 3);
        x.tick(3, 1);
        CHECK.due("as long as the first conflicts with none", x.waiting(3), 0);
        for (int i = 0; i < 3; i++) {
            CHECK.due("in the line's order", x.message(i), 4030001 + 100000 * order[i]);
            CHECK.due("held", x.held(i, 3), 1020);
        }
    }

    private static void theLastOf512Calls() {
        LeasedPages x = new LeasedPages(20);
        for (int i = 1; i <= 170; i++) {
            CHECK.due("number", x.acquire(2, 3, 2), i);
            x.deliver(0);
            x.deliver(0);
        }
        CHECK.due("call 511", x.acquire(2, 3, 2), 171);
        CHECK.due("call 512", x.message(0), 1230171);

        LeasedPages y = new LeasedPages(200);
        for (int i = 1; i <= 505; i++) {
            y.tick(3, 100);
        }
        y.acquire(1, 1, 2);
        y.deliver(0);
        y.deliver(0);
        CHECK.yes("call 509", y.tick(3, 99));
        CHECK.yes("call 510", y.tick(3, 100));
        CHECK.due("call 511", y.held(1, 1), 2001);
        CHECK.due("call 512", y.clock(3), 50699);
    }
}
