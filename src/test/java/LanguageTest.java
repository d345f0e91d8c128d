import java.io.IOException;
import java.lang.reflect.Constructor;
import java.lang.reflect.Executable;
import java.lang.reflect.Field;
import java.lang.reflect.Method;
import java.lang.reflect.Modifier;
import java.nio.file.Files;
import java.nio.file.Path;
import java.util.ArrayList;
import java.util.Arrays;
import java.util.IdentityHashMap;
import java.util.List;
import java.util.Map;
import java.util.Set;
import java.util.TreeMap;
import java.util.TreeSet;
import java.util.regex.Matcher;
import java.util.regex.Pattern;

/** What of shared/LANGUAGE.md can be seen from outside: the face, the words, the measures. */
public final class LanguageTest {
    private static final String[] FACE = {"feed(int, long) int", "den() int", "want() int", "fault() int",
        "count(int) int", "thing(int, int) int", "hold(int, int) int", "hangs(int, int) int", "leans(int, int) int",
        "height(int) int", "gives(int, int) int", "rest(int, int) int", "event(int, int) int", "stands() int",
        "bears(int, int) int", "weakest(int) int", "room(int, int) int", "cells(int) long", "rooms(int) int",
        "light(int) int", "most(int, int, int, int) int", "fewest() int", "order(int, boolean, int) int",
        "heap(int) int", "change(int, int) int", "fasten(int, int, int) int", "tower(int) int", "met(int) int",
        "seed(int) int", "bumps(int, int) int", "keep(int) int", "goBack(int) int"};

    private LanguageTest() {
    }

    public static void main(String[] args) throws IOException {
        face();
        insides();
        words();
        measures();
        depths();
        objects();
        Check.end();
    }

    private static void none(String rule, String found) {
        Check.due(rule + (found.isEmpty() ? "" : ": " + found), found.isEmpty() ? 0 : 1, 0);
    }

    private static void face() {
        Set<String> due = new TreeSet<>(Arrays.asList(FACE));
        Set<String> got = new TreeSet<>();
        StringBuilder wrong = new StringBuilder();
        for (Method m : ChairDen.class.getDeclaredMethods()) {
            int mod = m.getModifiers();
            if (Modifier.isPublic(mod)) {
                StringBuilder s = new StringBuilder();
                for (Class<?> type : m.getParameterTypes()) {
                    s.append(s.length() == 0 ? "" : ", ").append(type.getName());
                }
                got.add(m.getName() + "(" + s + ") " + m.getReturnType().getName());
            } else if (!Modifier.isPrivate(mod) && !m.isSynthetic()) {
                wrong.append(m.getName()).append(' ');
            }
        }
        Check.due("the face is as due: " + got, got.equals(due) ? 1 : 0, 1);
        Set<String> constants = new TreeSet<>();
        for (Field f : ChairDen.class.getDeclaredFields()) {
            if (Modifier.isPublic(f.getModifiers())) {
                constants.add(f.getName());
            } else if (!Modifier.isPrivate(f.getModifiers())) {
                wrong.append(f.getName()).append(' ');
            }
        }
        Check.due("constants", constants.equals(Set.of("NONE", "UNKNOWN", "OUTSIDE", "NOT", "FULL")) ? 1 : 0, 1);
        for (Constructor<?> c : ChairDen.class.getDeclaredConstructors()) {
            Check.due("a public constructor of nothing", c.getParameterCount() == 0
                && Modifier.isPublic(c.getModifiers()) ? 1 : 0, 1);
        }
        Check.due("final", Modifier.isFinal(ChairDen.class.getModifiers()) ? 1 : 0, 1);
        none("no other member than private ones", wrong.toString());
    }

    private static void insides() {
        Set<String> publicNames = new TreeSet<>();
        for (String m : FACE) {
            publicNames.add(m.substring(0, m.indexOf('(')));
        }
        Class<?>[] inner = ChairDen.class.getDeclaredClasses();
        Check.due("at most 12 classes: " + (inner.length + 1), inner.length + 1 <= 12 ? 1 : 0, 1);
        for (Class<?> c : inner) {
            Check.due(c.getName() + " is static", Modifier.isStatic(c.getModifiers()) ? 1 : 0, 1);
            for (Method m : c.getDeclaredMethods()) {
                none("no method inside bears a public name", publicNames.contains(m.getName()) ? m.getName() : "");
            }
        }
        for (Class<?> c : withOuter(inner)) {
            int fields = 0;
            for (Field f : c.getDeclaredFields()) {
                if (Modifier.isStatic(f.getModifiers())) {
                    none("static fields are final", Modifier.isFinal(f.getModifiers()) ? "" : f.getName());
                } else {
                    fields++;
                }
            }
            Check.due(c.getName() + ": twenty fields at most: " + fields, fields <= 20 ? 1 : 0, 1);
            for (Executable e : c.getDeclaredMethods()) {
                Check.due(e.getName() + ": seven parameters at most", e.getParameterCount() <= 7 ? 1 : 0, 1);
            }
        }
    }

    private static Class<?>[] withOuter(Class<?>[] inner) {
        Class<?>[] all = Arrays.copyOf(inner, inner.length + 1);
        all[inner.length] = ChairDen.class;
        return all;
    }

    /** The file without its comments, and its texts without their signs. */
    private static String code() throws IOException {
        String s = Files.readString(Path.of("src/main/java/ChairDen.java"));
        s = s.replaceAll("\"[^\"\n]*\"", "\"\"").replaceAll("'[^'\n]*'", "'_'");
        s = Pattern.compile("/\\*.*?\\*/", Pattern.DOTALL).matcher(s).replaceAll("");
        return s.replaceAll("//[^\n]*", "");
    }

    private static void words() throws IOException {
        String code = code();
        String barred = "\\b(throw|throws|try|catch|finally|synchronized|assert|instanceof|Object|hashCode|toString"
            + "|equals|record|sealed|yield|var|native|volatile|transient|strictfp|default \\w+\\(|\\w+Exact|float|double"
            + "|Character|System\\.(?!arraycopy)\\w+)\\b|->|::|@|\\?\\s*(extends|super)";
        Matcher m = Pattern.compile(barred).matcher(code);
        StringBuilder found = new StringBuilder();
        while (m.find()) {
            found.append(m.group()).append(' ');
        }
        none("no word that is ruled out", found.toString());
        m = Pattern.compile("^import (.*);", Pattern.MULTILINE).matcher(code);
        found.setLength(0);
        while (m.find()) {
            found.append(Set.of("java.util.Arrays", "java.util.ArrayList", "java.util.List").contains(m.group(1))
                ? "" : m.group(1));
        }
        none("no other import", found.toString());
        none("no package line", code.contains("package ") ? "package" : "");
        none("texts are not joined by +", Pattern.compile("\"\"\\s*\\+|\\+\\s*\"\"").matcher(code).find() ? "+" : "");
        none("no while (true)", Pattern.compile("while \\(true\\)|for \\(;").matcher(code).find() ? "endless" : "");
        Check.due("all signs are 1 to 127",
            Files.readString(Path.of("src/main/java/ChairDen.java")).chars().allMatch(c -> c > 0 && c < 128) ? 1 : 0, 1);
    }

    /** A method as it stands in the file. */
    private static final class Part {
        final String name;
        final List<String> lines = new ArrayList<>();

        Part(String name) {
            this.name = name;
        }
    }

    /** All methods: those of the class stand four signs in, those of the classes inside eight. */
    private static List<Part> methods() throws IOException {
        List<Part> all = new ArrayList<>();
        Part open = null;
        String margin = "    ";
        for (String line : code().split("\n", -1)) {
            Matcher start = Pattern.compile("^" + margin + "(?=[a-zA-Z])[^=]*?\\b(\\w+)\\(.*\\{$").matcher(line);
            if (line.startsWith("    private static final class ")) {
                margin = "        ";
            } else if (line.equals("    }") && open == null) {
                margin = "    ";
            } else if (open == null && start.matches()) {
                open = new Part(start.group(1));
                all.add(open);
            }
            if (open != null) {
                open.lines.add(line);
                open = line.equals(margin + "}") ? null : open;
            }
        }
        return all;
    }

    /** Methods of some sixty lines at most, lines that can be read. */
    private static void measures() throws IOException {
        int most = 0;
        for (Part method : methods()) {
            Check.due(method.name + " has sixty lines at most", method.lines.size() <= 60 ? 1 : 0, 1);
            most = Math.max(most, method.lines.size());
        }
        Check.due("methods are seen whole: " + most, most > 20 ? 1 : 0, 1);
        int number = 0;
        for (String line : code().split("\n", -1)) {
            number++;
            Check.due("line " + number + " is not too long", line.length() <= 120 ? 1 : 0, 1);
        }
    }

    /** Calls by name, methods of one name taken together: so none is deeper than it seems here. */
    private static void depths() throws IOException {
        Map<String, Set<String>> calls = new TreeMap<>();
        int bodies = 0;
        for (Part method : methods()) {
            Set<String> of = calls.computeIfAbsent(method.name, k -> new TreeSet<>());
            bodies++;
            for (String line : method.lines.subList(1, method.lines.size())) {
                Matcher call = Pattern.compile("\\b(\\w+)\\(").matcher(line);
                while (call.find()) {
                    of.add(call.group(1));
                }
            }
        }
        int due = ChairDen.class.getDeclaredMethods().length + 1;
        for (Class<?> c : ChairDen.class.getDeclaredClasses()) {
            due += (int) Arrays.stream(c.getDeclaredMethods()).filter(m -> !m.isSynthetic()).count();
            due += c.getSimpleName().equals("Draws") ? 1 : 0;
        }
        Check.due("all methods and both constructors that stand there are seen", bodies, due);
        for (String name : calls.keySet()) {
            int deep = depth(calls, name, 20);
            Check.due(name + " calls eight deep at most: " + deep, deep <= 8 ? 1 : 0, 1);
        }
    }

    private static int depth(Map<String, Set<String>> calls, String name, int left) {
        int most = 0;
        if (left > 0) {
            for (String next : calls.getOrDefault(name, Set.of())) {
                most = Math.max(most, depth(calls, next, left - 1));
            }
        }
        return most + 1;
    }

    /** Objects are made with the den alone, and so few that a room of 600 000 holds many dens. */
    private static void objects() throws IOException {
        StringBuilder found = new StringBuilder();
        for (String line : code().split("\n", -1)) {
            boolean field = line.matches("^ {4}( {4})?(private )?(final )?\\w+(\\[\\])? \\w+ = (new |\\{new ).*;$");
            found.append(line.contains("new ") && !field || line.contains("clone(") || line.contains("copyOf") ? line : "");
        }
        none("objects are made in fields alone", found.toString());
        IdentityHashMap<Object, Object> met = new IdentityHashMap<>();
        long elements = measure(new ChairDen(), met);
        Check.due("objects and arrays of one den: " + met.size(), met.size() <= 200 ? 1 : 0, 1);
        Check.due("fields and elements of one den: " + elements, elements <= 20000 ? 1 : 0, 1);
    }

    private static long measure(Object first, IdentityHashMap<Object, Object> met) {
        List<Object> open = new ArrayList<>(List.of(first));
        long elements = 0;
        met.put(first, first);
        for (int i = 0; i < open.size(); i++) {
            Object o = open.get(i);
            List<Object> parts = new ArrayList<>();
            if (o.getClass().isArray()) {
                int n = java.lang.reflect.Array.getLength(o);
                elements += n;
                for (int e = 0; e < n && !o.getClass().getComponentType().isPrimitive(); e++) {
                    parts.add(java.lang.reflect.Array.get(o, e));
                }
            } else {
                elements += fieldsOf(o, parts);
            }
            for (Object part : parts) {
                if (part != null && met.put(part, part) == null) {
                    open.add(part);
                }
            }
        }
        return elements;
    }

    private static int fieldsOf(Object o, List<Object> parts) {
        int many = 0;
        for (Field f : o.getClass().getDeclaredFields()) {
            if (!Modifier.isStatic(f.getModifiers())) {
                many++;
                f.setAccessible(true);
                try {
                    parts.add(f.getType().isPrimitive() ? null : f.get(o));
                } catch (IllegalAccessException e) {
                    Check.due("the field " + f.getName() + " can be seen", 0, 1);
                }
            }
        }
        return many;
    }
}
