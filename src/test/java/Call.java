/** The calls of the face by name, on the program or on the model; a boolean counts 1 or 0. */
enum Call {
    ACQUIRE, READ, WRITE, FLUSH, CLOSE, RETRY, MESSAGES, MESSAGE, DELIVER, DROP, DUPLICATE, TICK, CRASH, RESTART,
    CLOCK, LEASE, DIRTY, HELD, WAITING, STORED;

    int on(LeasedPages x, int... a) {
        return switch (this) {
            case ACQUIRE -> x.acquire(a[0], a[1], a[2]);
            case READ -> x.read(a[0], a[1], a[2], a[3]);
            case WRITE -> x.write(a[0], a[1], a[2], a[3]);
            case FLUSH -> x.flush(a[0]);
            case CLOSE -> x.close(a[0], a[1]);
            case RETRY -> x.retry(a[0]);
            case MESSAGES -> x.messages();
            case MESSAGE -> x.message(a[0]);
            case DELIVER -> number(x.deliver(a[0]));
            case DROP -> number(x.drop(a[0]));
            case DUPLICATE -> number(x.duplicate(a[0]));
            case TICK -> number(x.tick(a[0], a[1]));
            case CRASH -> number(x.crash(a[0]));
            case RESTART -> number(x.restart(a[0]));
            case CLOCK -> x.clock(a[0]);
            case LEASE -> x.lease(a[0], a[1]);
            case DIRTY -> x.dirty(a[0]);
            case HELD -> x.held(a[0], a[1]);
            case WAITING -> x.waiting(a[0]);
            case STORED -> x.stored(a[0], a[1]);
        };
    }

    int on(Model x, int... a) {
        return switch (this) {
            case ACQUIRE -> x.acquire(a[0], a[1], a[2]);
            case READ -> x.read(a[0], a[1], a[2], a[3]);
            case WRITE -> x.write(a[0], a[1], a[2], a[3]);
            case FLUSH -> x.flush(a[0]);
            case CLOSE -> x.close(a[0], a[1]);
            case RETRY -> x.retry(a[0]);
            case MESSAGES -> x.messages();
            case MESSAGE -> x.message(a[0]);
            case DELIVER -> number(x.deliver(a[0]));
            case DROP -> number(x.drop(a[0]));
            case DUPLICATE -> number(x.duplicate(a[0]));
            case TICK -> number(x.tick(a[0], a[1]));
            case CRASH -> number(x.crash(a[0]));
            case RESTART -> number(x.restart(a[0]));
            case CLOCK -> x.clock(a[0]);
            case LEASE -> x.lease(a[0], a[1]);
            case DIRTY -> x.dirty(a[0]);
            case HELD -> x.held(a[0], a[1]);
            case WAITING -> x.waiting(a[0]);
            case STORED -> x.stored(a[0], a[1]);
        };
    }

    private static int number(boolean answer) {
        return answer ? 1 : 0;
    }
}
