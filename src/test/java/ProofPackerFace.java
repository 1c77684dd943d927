import java.io.IOException;
import java.lang.reflect.Constructor;
import java.lang.reflect.Field;
import java.lang.reflect.Method;
import java.lang.reflect.Modifier;
import java.nio.file.Files;
import java.nio.file.Path;
import java.util.Arrays;
import java.util.List;
import java.util.Set;
import java.util.TreeSet;
import java.util.regex.Matcher;
import java.util.regex.Pattern;

// The public face of the document, and the rules of LANGUAGE.md that can be searched for.
public final class ProofPackerFace {
    private static final List<String> METHODS = Arrays.asList(
            "int statement(int)", "int mandatory(int)", "int make(int)", "int again(int)", "int clear()",
            "int count(int)", "int row(int)", "int from(int,int)", "int same(int,int)", "int pack()",
            "int step(int)", "int saves(int)", "int label(int)", "int packed(int)", "int letter(int)",
            "long size(int)", "int full(int,int)", "int check()");
    private static final String[] FORBIDDEN = {
        "throw", "throws", "try", "catch", "finally", "synchronized", "assert", "import static", "->", "::",
        "Object", "System.out", "Random", "Thread", "hashCode", "equals", "toString"
    };

    private static final Set<String> LIBRARY = Set.of("Arrays.copyOf", "Arrays.fill", "Math.min");
    private static final int MOST_LINES = 60;
    private static final int MOST_CLASSES = 12;

    private static int wrong = 0;

    private static void need(boolean holds, String what) {
        if (!holds) {
            wrong++;
            System.out.println(what);
        }
    }

    public static void main(String[] args) throws IOException {
        need(Modifier.isPublic(ProofPacker.class.getModifiers()), "the class is not public");
        need(Modifier.isFinal(ProofPacker.class.getModifiers()), "the class is not final");
        methods();
        fields();
        Constructor<?>[] made = ProofPacker.class.getDeclaredConstructors();
        need(made.length == 1 && made[0].getParameterCount() == 0 && Modifier.isPublic(made[0].getModifiers()),
                "the constructor is not the one of the document");
        for (Class<?> inside : ProofPacker.class.getDeclaredClasses()) {
            classInside(inside);
        }
        need(ProofPacker.class.getDeclaredClasses().length < MOST_CLASSES, "too many classes");
        text();
        System.out.println(wrong == 0 ? "the face is the document's" : wrong + " faults of the face");
        if (wrong != 0) {
            System.exit(1);
        }
    }

    private static void methods() {
        Set<String> seen = new TreeSet<>();
        for (Method one : ProofPacker.class.getDeclaredMethods()) {
            if (Modifier.isPrivate(one.getModifiers())) {
                need(METHODS.stream().noneMatch(m -> m.contains(" " + one.getName() + "(")),
                        "a private method has a public one's name: " + one.getName());
                continue;
            }
            StringBuilder text = new StringBuilder(one.getReturnType() + " " + one.getName() + "(");
            for (Class<?> type : one.getParameterTypes()) {
                text.append(text.charAt(text.length() - 1) == '(' ? "" : ",").append(type);
            }
            seen.add(text.append(")").toString());
            need(Modifier.isPublic(one.getModifiers()) && !Modifier.isStatic(one.getModifiers()),
                    "not a public method of objects: " + one.getName());
        }
        need(seen.equals(new TreeSet<>(METHODS)), "the methods are not the document's: " + seen);
    }

    private static void fields() {
        for (Field one : ProofPacker.class.getDeclaredFields()) {
            boolean constant = one.getName().equals("NONE");
            need(Modifier.isPublic(one.getModifiers()) == constant, "public, or not: " + one.getName());
            need(constant || Modifier.isPrivate(one.getModifiers()), "not private: " + one.getName());
            need(!Modifier.isStatic(one.getModifiers()) || Modifier.isFinal(one.getModifiers()),
                    "static and not final: " + one.getName());
        }
    }

    private static void classInside(Class<?> inside) {
        need(Modifier.isStatic(inside.getModifiers()), "not static: " + inside);
        int own = 0;
        for (Field one : inside.getDeclaredFields()) {
            boolean fixed = Modifier.isStatic(one.getModifiers());
            need(!fixed || Modifier.isFinal(one.getModifiers()), "static and not final: " + one);
            own += fixed ? 0 : 1;
        }
        need(own <= 20, "too many fields: " + inside);
        for (Method one : inside.getDeclaredMethods()) {
            need(one.getParameterCount() <= 7, "too many parameters: " + one);
            need(METHODS.stream().noneMatch(m -> m.contains(" " + one.getName() + "(")),
                    "a method inside has a public one's name: " + one);
        }
    }

    private static void text() throws IOException {
        String all = Files.readString(Path.of("src/main/java/ProofPacker.java"));
        String code = all.replaceAll("(?s)/\\*.*?\\*/", " ").replaceAll("//[^\\n]*", " ");
        for (String word : FORBIDDEN) {
            String bare = Character.isLetter(word.charAt(0)) ? "\\b" + Pattern.quote(word) + "\\b" : Pattern.quote(word);
            need(!Pattern.compile(bare).matcher(code).find(), "LANGUAGE.md leaves no room for: " + word);
        }
        Matcher imports = Pattern.compile("(?m)^import (\\S+);").matcher(code);
        while (imports.find()) {
            need(imports.group(1).matches("java\\.util\\.(Arrays|ArrayList|List)"), "imported: " + imports.group(1));
        }
        need(!Pattern.compile("(?m)^package ").matcher(code).find(), "there is a package line");
        need(all.chars().allMatch(c -> c < 256), "characters beyond 255");
        library(code);
        lengths(all.split("\n"));
    }

    // The class uses this much of the library alone: what is added has to be held against LANGUAGE.md first.
    private static void library(String code) {
        Matcher used = Pattern.compile("\\b([A-Z][a-z]\\w*\\.\\w+)").matcher(code);
        while (used.find()) {
            need(LIBRARY.contains(used.group(1)), "of the library: " + used.group(1));
        }
    }

    private static void lengths(String[] lines) {
        Pattern head = Pattern.compile("( {4}| {8})(?!private static final class)\\w.*\\) \\{");
        int methods = 0;
        for (int first = 0; first < lines.length; first++) {
            Matcher found = head.matcher(lines[first]);
            if (!found.matches() || lines[first].matches(" *(if|for|while|switch) .*")) {
                continue;
            }
            int last = first;
            while (last < lines.length && !lines[last].equals(found.group(1) + "}")) {
                last++;
            }
            methods++;
            need(last - first < MOST_LINES, "too long: " + lines[first]);
        }
        need(methods >= METHODS.size(), "methods were not found in the text");
    }
}
